/-! p26: the mill through each call -/
theorem jI.top {w d : Int} {z : Nat} {V V' : jN} {G E : Nat → Nat} {n y : Nat} (h : jI w d z V G E n y) (e : ∀ q, q ≠ 0 → q ≠ 1 → V' q = V q) (h0 : jSet (V' 0)) (h1 : jQ (V' 1)) : jI w d z V' G E n y := by
  obtain ⟨-, -, h3, h4, h5, h6, h8, h9, h10⟩ := h
  refine ⟨h0, h1, ?_, ?_, ?_, ?_, h8, h9, h10⟩
  · unfold jF; rw [e 7 (by omega) (by omega), e 8 (by omega) (by omega), e 9 (by omega) (by omega), e 10 (by omega) (by omega), e 11 (by omega) (by omega), e 12 (by omega) (by omega), e 13 (by omega) (by omega)]; exact h3
  · unfold jL; rw [e 17 (by omega) (by omega), e 18 (by omega) (by omega)]; exact h4
  · unfold jT; rw [e 17 (by omega) (by omega), e 11 (by omega) (by omega), e 19 (by omega) (by omega)]; exact h5
  · unfold jG; rw [e 2 (by omega) (by omega), e 3 (by omega) (by omega), e 4 (by omega) (by omega), e 5 (by omega) (by omega), e 11 (by omega) (by omega), e 12 (by omega) (by omega), e 13 (by omega) (by omega), e 19 (by omega) (by omega)]; exact h6
section OP
variable {w d : Int} {z : Nat} {M N : kN}
theorem pI.top (h : pI w d z M) (hI : cI N) (er : ∀ q, q ≠ 0 → q ≠ 1 → N q = M q) (h0 : jSet (jV N 0)) (h1 : jQ (jV N 1)) : pI w d z N := by
  obtain ⟨-, hw, hJ⟩ := h
  have ev : ∀ q, q ≠ 0 → q ≠ 1 → jV N q = jV M q := fun q a b => by funext k; rw [jV_at, jV_at, er q a b]
  have eG : gr N = gr M := by funext f; unfold gr; rw [er 6 (by omega) (by omega)]
  have eE : fi N = fi M := by funext f; unfold fi; rw [er 16 (by omega) (by omega)]
  have eF : nF N = nF M := by unfold nF; rw [er 19 (by omega) (by omega)]
  have eY : nY N = nY M := by unfold nY; rw [er 19 (by omega) (by omega)]
  refine ⟨hI, by rw [er 19 (by omega) (by omega)]; exact hw, ?_⟩
  rw [eG, eE, eF, eY]
  exact hJ.top ev h0 h1
theorem pI.cong (h : pI w d z M) (hI : cI N) (er : ∀ q, q ≠ 14 → q ≠ 15 → q ≠ 19 → N q = M q) (e0 : N 19 0 = M 19 0) (e1 : N 19 1 = M 19 1) (e4 : N 19 4 = M 19 4) (e6 : N 19 6 = M 19 6) (e7 : N 19 7 = M 19 7) : pI w d z N := by
  obtain ⟨-, hw, hJ⟩ := h
  have ev : ∀ q, q ≠ 14 → q ≠ 15 → q ≠ 19 → ∀ k, jV N q k = jV M q k := fun q a b c k => by rw [jV_at, jV_at, er q a b c]
  have eG : gr N = gr M := by funext f; unfold gr; rw [er 6 (by omega) (by omega) (by omega)]
  have eE : fi N = fi M := by funext f; unfold fi; rw [er 16 (by omega) (by omega) (by omega)]
  have eF : nF N = nF M := by unfold nF; rw [e4]
  have eY : nY N = nY M := by unfold nY; rw [e6]
  refine ⟨hI, by rw [e0]; exact hw, ?_⟩
  rw [eG, eE, eF, eY]
  exact hJ.ext (fun k _ => ev 0 (by omega) (by omega) (by omega) k) (fun q a b k _ => ev q (by omega) (by omega) (by omega) k) (fun q a b k _ => ev q (by omega) (by omega) (by omega) k) (fun q a b k _ => ev q (by omega) (by omega) (by omega) k) (by rw [jV_at, jV_at, e1]) (by rw [jV_at, jV_at, e7]) (fun _ _ => rfl) (fun _ _ => rfl)
theorem pI.copy (h : pI w d z N) (M : kN) : pI w d z (cCopy N M) := by
  obtain ⟨hI, hw, hJ⟩ := h
  obtain ⟨r0, r1, r2, r3, r4, r5⟩ := cCopy_r N M
  obtain ⟨f6, f7, f8, f9, f10, f11, f12, f13⟩ := cCopy_f N M
  obtain ⟨-, -, y16, y17, y18⟩ := cCopy_y N M
  obtain ⟨n0, n1, -, -, n4, -, n6, n7⟩ := cCopy_n N M
  have h30 := hI.f30
  have h400 := hI.y400
  have eF : nF (cCopy N M) = nF N := by
    show (cCopy N M 19 4).toNatClampNeg = _
    rw [n4, nI_clamp (by omega)]
  have eY : nY (cCopy N M) = nY N := by
    show (cCopy N M 19 6).toNatClampNeg = _
    rw [n6, nI_clamp (by omega)]
  refine ⟨cCopy_I hI, by rw [n0]; exact hw, ?_⟩
  rw [eF, eY]
  refine hJ.ext (fun k hk => ?_) (fun q a b k hk => ?_) (fun q a b k hk => ?_) (fun q a b k hk => ?_) ?_ ?_ (fun k hk => ?_) (fun k hk => ?_)
  · rw [jV_at, jV_at, r0, kcp_at, if_pos hk]
  · rcases (show q = 1 ∨ q = 2 ∨ q = 3 ∨ q = 4 ∨ q = 5 by omega) with rfl | rfl | rfl | rfl | rfl <;> rw [jV_at, jV_at] <;> first | rw [r1, kcp_at, if_pos hk] | rw [r2, kcp_at, if_pos hk] | rw [r3, kcp_at, if_pos hk] | rw [r4, kcp_at, if_pos hk] | rw [r5, kcp_at, if_pos hk]
  · rcases (show q = 7 ∨ q = 8 ∨ q = 9 ∨ q = 10 ∨ q = 11 ∨ q = 12 ∨ q = 13 by omega) with rfl | rfl | rfl | rfl | rfl | rfl | rfl <;> rw [jV_at, jV_at] <;> first | rw [f7, kcp_at, if_pos hk] | rw [f8, kcp_at, if_pos hk] | rw [f9, kcp_at, if_pos hk] | rw [f10, kcp_at, if_pos hk] | rw [f11, kcp_at, if_pos hk] | rw [f12, kcp_at, if_pos hk] | rw [f13, kcp_at, if_pos hk]
  · rcases (show q = 17 ∨ q = 18 by omega) with rfl | rfl <;> rw [jV_at, jV_at] <;> first | rw [y17, kcp_at, if_pos hk] | rw [y18, kcp_at, if_pos hk]
  · rw [jV_at, jV_at, n1]
  · rw [jV_at, jV_at, n7]
  · unfold gr; rw [f6, kcp_at, if_pos hk]
  · unfold fi; rw [y16, kcp_at, if_pos hk]
/-- what holds of a mill between calls -/
def pOK (M : kN) : Prop := (∃ s, kOK M s) ∧ ∃ w : Int, w ≤ 1000 ∧ pI w w 0 M
theorem pOK.I (h : pOK M) : cI M := by
  obtain ⟨-, w, -, hp⟩ := h
  exact hp.1
theorem kOK_Q {s : kS} (h : kOK M s) : jQ (jV M 1) := fun g hg => by
  rw [jV_at, h.1.1.qu hg]
  exact h.2.2.2.2.1.2 g hg
theorem kOK_I {s : kS} (h : kOK M s) : cI M := kSim_I h.1 h.2.1
theorem pOK.copy (h : pOK N) (M : kN) : pOK (cCopy N M) := by
  obtain ⟨⟨s, hs⟩, w, hw, hp⟩ := h
  exact ⟨⟨s, kOK_copy hs⟩, w, hw, hp.copy M⟩
abbrev pO (M : kN) (x : Int32 × kN) : Prop := pOK x.2 ∧ (x.1 < 0 → x.2 = M)
theorem pO_of {s : kS} {x : Int32 × kN} {y : Int32 × kS} (hO : kOut M s x y) (hp : cI x.2 → jQ (jV x.2 1) → ∃ w : Int, w ≤ 1000 ∧ pI w w 0 x.2) : pO M x := by
  obtain ⟨e1, e2, e3⟩ := hO
  exact ⟨⟨⟨_, e2⟩, hp (kOK_I e2) (kOK_Q e2)⟩, fun q => (e3 (by rw [← e1]; exact q)).1⟩
theorem jSet_iff {r : Nat → Int} : jSet r ↔ ∀ k, k < 7 → (kLo.getD k 0).toInt ≤ r k ∧ r k ≤ (kHi.getD k 0).toInt := by
  have l0 : (kLo.getD 0 0).toInt = 0 := by decide
  have l1 : (kLo.getD 1 0).toInt = 1 := by decide
  have l2 : (kLo.getD 2 0).toInt = 1 := by decide
  have l3 : (kLo.getD 3 0).toInt = 0 := by decide
  have l4 : (kLo.getD 4 0).toInt = 0 := by decide
  have l5 : (kLo.getD 5 0).toInt = 1 := by decide
  have l6 : (kLo.getD 6 0).toInt = 0 := by decide
  have u0 : (kHi.getD 0 0).toInt = 20 := by decide
  have u1 : (kHi.getD 1 0).toInt = 30 := by decide
  have u2 : (kHi.getD 2 0).toInt = 200 := by decide
  have u3 : (kHi.getD 3 0).toInt = 400 := by decide
  have u4 : (kHi.getD 4 0).toInt = 100 := by decide
  have u5 : (kHi.getD 5 0).toInt = 20 := by decide
  have u6 : (kHi.getD 6 0).toInt = 999 := by decide
  unfold jSet
  constructor
  · rintro ⟨h0, h1, h2, h3, h4, h5, h6⟩ k hk
    rcases (show k = 0 ∨ k = 1 ∨ k = 2 ∨ k = 3 ∨ k = 4 ∨ k = 5 ∨ k = 6 by omega) with rfl | rfl | rfl | rfl | rfl | rfl | rfl
    · rw [l0, u0]; exact h0
    · rw [l1, u1]; exact h1
    · rw [l2, u2]; exact h2
    · rw [l3, u3]; exact h3
    · rw [l4, u4]; exact h4
    · rw [l5, u5]; exact h5
    · rw [l6, u6]; exact h6
  · intro h
    have h0 := h 0 (by omega)
    have h1 := h 1 (by omega)
    have h2 := h 2 (by omega)
    have h3 := h 3 (by omega)
    have h4 := h 4 (by omega)
    have h5 := h 5 (by omega)
    have h6 := h 6 (by omega)
    rw [l0, u0] at h0
    rw [l1, u1] at h1
    rw [l2, u2] at h2
    rw [l3, u3] at h3
    rw [l4, u4] at h4
    rw [l5, u5] at h5
    rw [l6, u6] at h6
    exact ⟨h0, h1, h2, h3, h4, h5, h6⟩
theorem pO_set (h : pOK M) (k v : Int32) : pO M (cSet M k v) := by
  obtain ⟨⟨s, hs⟩, w, hw, hp⟩ := h
  refine pO_of (aSet_sim hs k v) ?_
  unfold cSet
  by_cases c : pIn k 0 6
  · rw [if_pos c]
    by_cases c2 : pIn v (kLo.getD k.toNatClampNeg 0) (kHi.getD k.toNatClampNeg 0)
    · rw [if_pos c2]
      intro hI hQ
      refine ⟨w, hw, hp.top hI (fun q a _ => if_neg a) ?_ hQ⟩
      show jSet (jV (sM M 0 k.toNatClampNeg v) 0)
      rw [jV_sM]
      show jSet (jU (jV M 0) k.toNatClampNeg v.toInt)
      have hS := jSet_iff.mp hp.2.2.S
      refine jSet_iff.mpr (fun j hj => ?_)
      by_cases cj : j = k.toNatClampNeg
      · rw [← cj, jU_s]
        rw [← cj] at c2
        exact pIn_int c2
      · rw [jU_o cj]; exact hS j hj
    · rw [if_neg c2]; intro _ _; exact ⟨w, hw, hp⟩
  · rw [if_neg c]; intro _ _; exact ⟨w, hw, hp⟩
theorem pO_quota (h : pOK M) (g t : Int32) : pO M (cQuota M g t) := by
  obtain ⟨⟨s, hs⟩, w, hw, hp⟩ := h
  refine pO_of (aQuota_sim hs g t) ?_
  unfold cQuota
  by_cases c : pIn g 0 5
  · rw [if_pos c]
    by_cases c2 : pIn t 0 9999
    · rw [if_pos c2]
      intro hI hQ
      exact ⟨w, hw, hp.top hI (fun q _ b => if_neg b) hp.2.2.S hQ⟩
    · rw [if_neg c2]; intro _ _; exact ⟨w, hw, hp⟩
  · rw [if_neg c]; intro _ _; exact ⟨w, hw, hp⟩
theorem pO_lend (h : pOK M) (g o t : Int32) : pO M (cLend M g o t) := by
  obtain ⟨⟨s, hs⟩, w, hw, hp⟩ := h
  refine pO_of (aLend_sim hs g o t) ?_
  unfold cLend
  have bad : ∀ v : Int32, cI ((v, M) : Int32 × kN).2 → jQ (jV ((v, M) : Int32 × kN).2 1) → ∃ w : Int, w ≤ 1000 ∧ pI w w 0 ((v, M) : Int32 × kN).2 := fun v _ _ => ⟨w, hw, hp⟩
  split
  · split
    · split
      · exact bad _
      · split
        · exact bad _
        · split
          · exact bad _
          · split
            · intro hI hQ
              refine ⟨w, hw, hp.top hI (fun q _ b => ?_) hp.2.2.S hQ⟩
              show (if q = 1 then _ else (if q = 1 then _ else M q)) = M q
              rw [if_neg b, if_neg b]
            · exact bad _
    · exact bad _
  · exact bad _
set_option maxHeartbeats 4000000 in
theorem pO_field (h : pOK M) (g t p b : Int32) : pO M (cField M g t p b) := by
  obtain ⟨⟨s, hs⟩, w, hw, hp⟩ := h
  refine pO_of (aField_sim hs g t p b) ?_
  unfold cField
  have bad : ∀ v : Int32, cI ((v, M) : Int32 × kN).2 → jQ (jV ((v, M) : Int32 × kN).2 1) → ∃ w : Int, w ≤ 1000 ∧ pI w w 0 ((v, M) : Int32 × kN).2 := fun v _ _ => ⟨w, hw, hp⟩
  by_cases c1 : pIn g 0 5
  · rw [if_pos c1]
    by_cases c2 : pIn t 1 300
    · rw [if_pos c2]
      by_cases c3 : pIn p 1 100
      · rw [if_pos c3]
        by_cases c4 : pIn b (M 19 0) 999
        · rw [if_pos c4]
          unfold cAddF
          by_cases c5 : M 19 4 < 30
          · rw [if_pos c5]
            intro hI _
            obtain ⟨hI0, hw0, hJ⟩ := hp
            have h30 := hI0.f30
            have hn : nF M < 30 := by
              rw [hI0.f] at c5
              exact (nI_ltI (a := nF M) (b := 30) (by omega) (by omega)).mp c5
            have a1 := pIn_int c2
            have a2 := pIn_int c3
            have a3 := pIn_int c4
            have k1 : (1 : Int32).toInt = 1 := by decide
            have k2 : (300 : Int32).toInt = 300 := by decide
            have k3 : (100 : Int32).toInt = 100 := by decide
            have k4 : (999 : Int32).toInt = 999 := by decide
            rw [k1, k2] at a1
            rw [k1, k3] at a2
            rw [hw0, k4] at a3
            obtain ⟨j, rfl, j0, j5⟩ := pIn_nat c1 (show (0 : Int32) = nI 0 from rfl) (show (5 : Int32) = nI 5 from rfl) (by omega) (by omega)
            refine ⟨w, hw, hI, hw0, ?_⟩
            have ev : jV (sM (sM (sM (sM (sM (sM (sM (sM (sM M 6 (nF M) (nI j)) 7 (nF M) t) 8 (nF M) p) 9 (nF M) b) 10 (nF M) t) 11 (nF M) 0) 12 (nF M) 0) 13 (nF M) 0) 19 4 (M 19 4 + 1)) = jComeV (jV M) (nF M) (nI j).toInt t.toInt p.toInt b.toInt (M 19 4 + 1).toInt := by
              rw [jV_sM, jV_sM, jV_sM, jV_sM, jV_sM, jV_sM, jV_sM, jV_sM, jV_sM, i_0]
              rfl
            have eN : nF (sM (sM (sM (sM (sM (sM (sM (sM (sM M 6 (nF M) (nI j)) 7 (nF M) t) 8 (nF M) p) 9 (nF M) b) 10 (nF M) t) 11 (nF M) 0) 12 (nF M) 0) 13 (nF M) 0) 19 4 (M 19 4 + 1)) = nF M + 1 := by
              show (M 19 4 + 1).toNatClampNeg = _
              rw [hI0.f, nI_1, nI_clamp (by omega)]
            have eG : gr (sM (sM (sM (sM (sM (sM (sM (sM (sM M 6 (nF M) (nI j)) 7 (nF M) t) 8 (nF M) p) 9 (nF M) b) 10 (nF M) t) 11 (nF M) 0) 12 (nF M) 0) 13 (nF M) 0) 19 4 (M 19 4 + 1)) = fun k => if k = nF M then j else gr M k := by
              funext k
              show (upd (M 6) (nF M) (nI j) k).toNatClampNeg = _
              unfold upd
              split
              · rw [nI_clamp (by omega)]
              · rfl
            dsimp only
            rw [ev, eN, eG]
            exact hJ.come (fun k hk => if_neg (by omega)) (by rw [if_pos rfl]; omega) hn a1 a2 a3
          · rw [if_neg c5]; exact bad _
        · rw [if_neg c4]; exact bad _
      · rw [if_neg c3]; exact bad _
    · rw [if_neg c2]; exact bad _
  · rw [if_neg c1]; exact bad _
theorem pO_stop (h : pOK M) (f l : Int32) : pO M (cStop M f l) := by
  obtain ⟨⟨s, hs⟩, w, hw, hp⟩ := h
  refine pO_of (aStop_sim hs f l) ?_
  unfold cStop
  have bad : ∀ v : Int32, cI ((v, M) : Int32 × kN).2 → jQ (jV ((v, M) : Int32 × kN).2 1) → ∃ w : Int, w ≤ 1000 ∧ pI w w 0 ((v, M) : Int32 × kN).2 := fun v _ _ => ⟨w, hw, hp⟩
  split
  · split
    · split
      · intro hI _
        refine ⟨w, hw, hp.cong hI (fun q a b c => ?_) rfl rfl rfl rfl rfl⟩
        show (if q = 19 then _ else (if q = 15 then _ else (if q = 14 then _ else M q))) = M q
        rw [if_neg c, if_neg b, if_neg a]
      · exact bad _
    · exact bad _
  · exact bad _
theorem pO_dropStop (h : pOK M) (k : Int32) : pO M (cDropStop M k) := by
  obtain ⟨⟨s, hs⟩, w, hw, hp⟩ := h
  refine pO_of (aDrop_sim hs k) ?_
  unfold cDropStop
  split
  · intro hI _
    generalize nS M - (k.toNatClampNeg + 1) = n at hI ⊢
    have e19 : cDropSTo M k.toNatClampNeg n 19 = M 19 := cDropSTo_o M _ (by omega) (by omega) n
    have e : ∀ j, j ≠ 5 → sM (cDropSTo M k.toNatClampNeg n) 19 5 (M 19 5 - 1) 19 j = M 19 j := fun j hj => by
      show upd (cDropSTo M k.toNatClampNeg n 19) 5 _ j = _
      rw [upd_o hj, e19]
    refine ⟨w, hw, hp.cong hI (fun q a b c => ?_) (e 0 (by omega)) (e 1 (by omega)) (e 4 (by omega)) (e 6 (by omega)) (e 7 (by omega))⟩
    show (if q = 19 then _ else cDropSTo M k.toNatClampNeg n q) = M q
    rw [if_neg c, cDropSTo_o M _ a b]
  · intro _ _; exact ⟨w, hw, hp⟩
theorem pO_pass (h : pOK M) (x : Int32) : pO M (cPass M x) := by
  obtain ⟨⟨s, hs⟩, w, hw, hp⟩ := h
  refine pO_of (aPass_sim hs x) ?_
  unfold cPass
  by_cases c : pIn x 1 99
  · rw [if_pos c]
    by_cases c2 : M 19 0 + x ≤ 1000
    · rw [if_pos c2]
      intro _ _
      obtain ⟨k, rfl, k1, k2⟩ := pIn_nat c (show (1 : Int32) = nI 1 from rfl) (show (99 : Int32) = nI 99 from rfl) (by omega) (by omega)
      have e0 : (M 19 0).toInt = w := hp.2.1
      have hR := hp.2.2.R
      have e1 : (1000 : Int32).toInt = 1000 := by decide
      have e2 : (nI k).toInt = k := nI_toInt (by omega)
      rw [i_le, i_add (by omega) (by omega), e0, e1, e2] at c2
      refine ⟨w + k, c2, ?_⟩
      rw [nI_clamp (by omega)]
      exact (hp.days 0 k (by omega)).1
    · rw [if_neg c2]; intro _ _; exact ⟨w, hw, hp⟩
  · rw [if_neg c]; intro _ _; exact ⟨w, hw, hp⟩
theorem pOK_new : pOK cNew := by
  have hk := kRel_start.1
  refine ⟨⟨_, hk⟩, 0, by omega, kOK_I hk, i_0, ?_⟩
  have z : ∀ q k, 2 ≤ q → jV cNew q k = 0 := fun q k hq => by
    rw [jV_at]
    unfold cNew
    rw [if_neg (by omega), if_neg (by omega)]
    exact i_0
  have eF : nF cNew = 0 := rfl
  have eY : nY cNew = 0 := rfl
  rw [eF, eY]
  refine ⟨?_, kOK_Q hk, fun f hf => by omega, ⟨fun k hk => by omega, fun k _ hk => by omega, fun k hk => by omega, fun k hk => by omega⟩, ⟨(z 19 7 (by omega)).symm, by rw [z 19 7 (by omega)]; omega, fun f hf => by omega, (z 19 7 (by omega)).symm⟩, ⟨fun g hg => ⟨?_, ?_⟩, (jS_0 6 (fun k _ => z 3 k (by omega))).symm, (jS_0 6 (fun k _ => z 4 k (by omega))).symm, ?_, ?_⟩, by omega, fun f hf => by omega, fun k hk => by omega⟩
  · refine jSet_iff.mpr (fun k hk => ?_)
    rcases (show k = 0 ∨ k = 1 ∨ k = 2 ∨ k = 3 ∨ k = 4 ∨ k = 5 ∨ k = 6 by omega) with rfl | rfl | rfl | rfl | rfl | rfl | rfl <;> decide
  · rw [z 3 g (by omega), z 4 g (by omega), z 5 g (by omega)]; omega
  · rw [z 2 g (by omega), z 3 g (by omega)]; rfl
  · rw [z 19 1 (by omega)]; omega
  · rw [z 19 1 (by omega), jS_0 6 (fun k _ => z 3 k (by omega))]; omega
end OP
/-! between calls -/
def pRe (M : kN) (F : kFm) (o z : Nat) : Prop := pOK M ∧ (z ≤ 6 ∧ o < 7) ∧ ∀ j, j < z → ∃ (α : Nat → Nat) (X : kN), F ((o + j) % 7) = some (α, X) ∧ pOK X
theorem pRe_start : pRe cNew (fun _ => none) 0 0 := ⟨pOK_new, by omega, fun j hj => by omega⟩
theorem pRe.U {M : kN} {F : kFm} {o z : Nat} (h : pRe M F o z) : 0 < z → ∃ (α : Nat → Nat) (X : kN), F ((o + (z - 1)) % 7) = some (α, X) ∧ cI X := fun hz => by
  obtain ⟨α, X, h1, h2⟩ := h.2.2 (z - 1) (by omega)
  exact ⟨α, X, h1, h2.I⟩
theorem pRe.rec {M : kN} {F : kFm} {o z : Nat} (h : pRe M F o z) {r : Int32} {x : Int32 × kN} {u : kN × kFm × Nat × Nat} (hO : pO M x) (hr : r = x.1 ∧ kSt M F o z r x.2 u) : pRe u.1 u.2.1 u.2.2.1 u.2.2.2 ∧ (r < 0 → u.1 = M ∧ u.2.2.2 = z) := by
  obtain ⟨hM, ⟨hz, ho⟩, hF⟩ := h
  obtain ⟨rfl, e1, ⟨α, X, e2⟩, e3⟩ := hr
  obtain ⟨h1, h2⟩ := hO
  obtain ⟨M1, F1, o1, z1⟩ := u
  dsimp only at e1 e2 e3 ⊢
  subst e1 e2
  have eo : o1 = (cRecd x.1 o z).1 := congrArg Prod.fst e3
  have ez : z1 = (cRecd x.1 o z).2 := congrArg Prod.snd e3
  unfold cRecd at eo ez
  by_cases c : x.1 < 0
  · rw [if_pos c] at eo ez
    refine ⟨⟨h1, by dsimp only at eo ez; omega, fun j hj => ?_⟩, fun _ => ⟨h2 c, ez⟩⟩
    have eo : o1 = o := eo
    have ez : z1 = z := ez
    subst eo ez
    rw [kUp_o (by omega)]
    exact hF j hj
  · rw [if_neg c] at eo ez
    refine ⟨?_, fun q => absurd q c⟩
    by_cases c6 : z < 6
    · rw [if_pos c6] at eo ez
      have eo : o1 = o := eo
      have ez : z1 = z + 1 := ez
      subst eo ez
      refine ⟨h1, by omega, fun j hj => ?_⟩
      by_cases cj : j = z
      · subst cj
        exact ⟨α, cCopy M X, kUp_s _ _ _, hM.copy X⟩
      · rw [kUp_o (by omega)]
        exact hF j (by omega)
    · rw [if_neg c6] at eo ez
      have eo : o1 = (o + 1) % 7 := eo
      have ez : z1 = z := ez
      have hz6 : z = 6 := by omega
      subst eo ez hz6
      refine ⟨h1, ⟨by omega, Nat.mod_lt _ (by decide)⟩, fun j hj => ?_⟩
      by_cases cj : j = 5
      · subst cj
        exact ⟨α, cCopy M X, by rw [show ((o + 1) % 7 + 5) % 7 = (o + 6) % 7 by omega]; exact kUp_s _ _ _, hM.copy X⟩
      · obtain ⟨β, Z, b1, b2⟩ := hF (j + 1) (by omega)
        exact ⟨β, Z, by rw [kUp_o (by omega), show ((o + 1) % 7 + j) % 7 = (o + (j + 1)) % 7 by omega]; exact b1, b2⟩
theorem pRe.undo {M : kN} {F : kFm} {o z : Nat} (h : pRe M F o z) {r : Int32} {u : kN × Nat} (hu : cUndoP M F o z r u) : pRe u.1 F o u.2 ∧ (r < 0 → u.1 = M ∧ u.2 = z) := by
  unfold cUndoP at hu
  by_cases c : z = 0
  · rw [if_pos c] at hu
    obtain ⟨rfl, rfl⟩ := hu
    exact ⟨h, fun _ => ⟨rfl, rfl⟩⟩
  · rw [if_neg c] at hu
    obtain ⟨M1, z1⟩ := u
    obtain ⟨hM, ⟨hz, ho⟩, hF⟩ := h
    obtain ⟨rfl, ez, α, X, hX, eM⟩ := hu
    dsimp only at ez eM ⊢
    subst ez eM
    obtain ⟨β, Z, b1, b2⟩ := hF (z - 1) (by omega)
    have hXZ : X = Z := by
      rw [hX] at b1
      exact congrArg Prod.snd (Option.some.inj b1)
    subst hXZ
    refine ⟨⟨b2.copy M, by omega, fun j hj => hF j (by omega)⟩, fun q => ?_⟩
    exfalso
    rw [i_lt, i_0, nI_toInt (by omega)] at q
    omega
