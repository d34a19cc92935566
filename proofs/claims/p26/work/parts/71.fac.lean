/-! p26: what the law asks of a mill between calls -/
theorem j_sTo {r : Nat → Int32} : ∀ n, (∀ k, k < n → 0 ≤ (r k).toInt) → jS (fun k => (r k).toInt) n < 2147483648 → (sTo r n).toInt = jS (fun k => (r k).toInt) n
  | 0, _, _ => i_0
  | n + 1, h, hb => by
    have e : jS (fun k => (r k).toInt) (n + 1) = jS (fun k => (r k).toInt) n + (r n).toInt := rfl
    have h1 := h n (by omega)
    have h0 := (jS_ge (r := fun k => (r k).toInt) n (fun k hk => h k (by omega))).1
    have ih := j_sTo n (fun k hk => h k (by omega)) (by omega)
    show (sTo r n + r n).toInt = _
    rw [i_add (by omega) (by omega), ih, e]
/-- what of a grower's fields is in the yard -/
def cItsTo (M : kN) (g : Int32) : Nat → Int32
  | 0 => 0
  | k + 1 => if M 6 k = g then cItsTo M g k + M 11 k else cItsTo M g k
section FA
variable {M : kN}
theorem pOK.J (h : pOK M) : 0 ≤ (M 19 0).toInt ∧ (M 19 0).toInt ≤ 1000 ∧ jI (M 19 0).toInt (M 19 0).toInt 0 (jV M) (gr M) (fi M) (nF M) (nY M) := by
  obtain ⟨-, w, hw, -, h2, h3⟩ := h
  subst h2
  exact ⟨h3.R.1, hw, h3⟩
theorem pt_now (h : pOK M) : ¬ (1000 : Int32) < M 19 0 := by
  have := h.J
  have e : (1000 : Int32).toInt = 1000 := by decide
  rw [i_lt, e]; omega
theorem pt_F (h : pOK M) {f : Nat} (hf : f < nF M) : jF1 (M 19 0).toInt (M 7 f).toInt (M 8 f).toInt (M 9 f).toInt (M 10 f).toInt (M 11 f).toInt (M 12 f).toInt (M 13 f).toInt := h.J.2.2.F hf
theorem pt_sum (h : pOK M) {f : Nat} (hf : f < nF M) : M 7 f = M 10 f + M 11 f + M 12 f + M 13 f := by
  have F := pt_F h hf
  unfold jF1 at F
  apply Int32.toInt_inj.mp
  have e1 : (M 10 f + M 11 f).toInt = (M 10 f).toInt + (M 11 f).toInt := i_add (by omega) (by omega)
  have e2 : (M 10 f + M 11 f + M 12 f).toInt = (M 10 f + M 11 f).toInt + (M 12 f).toInt := i_add (by omega) (by omega)
  have e3 : (M 10 f + M 11 f + M 12 f + M 13 f).toInt = (M 10 f + M 11 f + M 12 f).toInt + (M 13 f).toInt := i_add (by omega) (by omega)
  rw [e3, e2, e1]; omega
theorem pt_on (h : pOK M) {f : Nat} (hf : f < nF M) : ¬ M 10 f < 0 := by
  have F := pt_F h hf
  unfold jF1 at F
  rw [i_lt, i_0]; omega
theorem pt_iy (h : pOK M) {f : Nat} (hf : f < nF M) : ¬ M 11 f < 0 := by
  have F := pt_F h hf
  unfold jF1 at F
  rw [i_lt, i_0]; omega
theorem pt_pu (h : pOK M) {f : Nat} (hf : f < nF M) : 0 ≤ (sPur (M 9 f) (M 8 f) (M 19 0) (M 0 4)).toInt ∧ (sPur (M 9 f) (M 8 f) (M 19 0) (M 0 4)).toInt ≤ (M 8 f).toInt ∧ ((M 19 0).toInt < (M 9 f).toInt → (sPur (M 9 f) (M 8 f) (M 19 0) (M 0 4)).toInt = (M 8 f).toInt) := by
  have F := pt_F h hf
  unfold jF1 at F
  obtain ⟨w0, w1, J⟩ := h.J
  have hS := J.S
  simp only [jSet, jV] at hS
  exact j_pur (by omega) (by omega) (by omega) (by omega)
theorem pt_pu0 (h : pOK M) {f : Nat} (hf : f < nF M) : ¬ sPur (M 9 f) (M 8 f) (M 19 0) (M 0 4) < 0 := by
  have := pt_pu h hf
  rw [i_lt, i_0]; omega
theorem pt_pu1 (h : pOK M) {f : Nat} (hf : f < nF M) : ¬ M 8 f < sPur (M 9 f) (M 8 f) (M 19 0) (M 0 4) := by
  have := pt_pu h hf
  rw [i_lt]; omega
theorem pt_how (M : kN) (f : Nat) : (cHow M f (M 19 0) = 0 ∧ (M 19 0).toInt < (M 9 f).toInt) ∨ ((M 9 f).toInt ≤ (M 19 0).toInt ∧ ((cHow M f (M 19 0) = 1 ∧ 0 < (M 10 f).toInt) ∨ ((M 10 f).toInt ≤ 0 ∧ ((cHow M f (M 19 0) = 2 ∧ (M 13 f).toInt ≤ 0) ∨ (cHow M f (M 19 0) = 3 ∧ 0 < (M 13 f).toInt))))) := j_how
theorem pt_green (h : pOK M) {f : Nat} (hf : f < nF M) (hh : ¬ 0 < cHow M f (M 19 0)) : M 10 f = M 7 f ∧ sPur (M 9 f) (M 8 f) (M 19 0) (M 0 4) = M 8 f := by
  have F := pt_F h hf
  unfold jF1 at F
  have P := pt_pu h hf
  rcases pt_how M f with ⟨e, c⟩ | ⟨c, ⟨e, c2⟩ | ⟨c2, ⟨e, c3⟩ | ⟨e, c3⟩⟩⟩
  · exact ⟨Int32.toInt_inj.mp (by omega), Int32.toInt_inj.mp (by omega)⟩
  · rw [e] at hh; exact absurd (by decide) hh
  · rw [e] at hh; exact absurd (by decide) hh
  · rw [e] at hh; exact absurd (by decide) hh
theorem pt_full (h : pOK M) {f : Nat} (hf : f < nF M) (hh : ¬ cHow M f (M 19 0) < 2) : M 10 f = 0 := by
  have F := pt_F h hf
  unfold jF1 at F
  rcases pt_how M f with ⟨e, c⟩ | ⟨c, ⟨e, c2⟩ | ⟨c2, ⟨e, c3⟩ | ⟨e, c3⟩⟩⟩
  · rw [e] at hh; exact absurd (by decide) hh
  · rw [e] at hh; exact absurd (by decide) hh
  · exact Int32.toInt_inj.mp (by rw [i_0]; omega)
  · exact Int32.toInt_inj.mp (by rw [i_0]; omega)
theorem pt_lost (h : pOK M) {f : Nat} (hf : f < nF M) : cHow M f (M 19 0) = 3 ↔ ¬ M 13 f ≤ 0 := by
  have F := pt_F h hf
  unfold jF1 at F
  rw [i_le, i_0]
  rcases pt_how M f with ⟨e, c⟩ | ⟨c, ⟨e, c2⟩ | ⟨c2, ⟨e, c3⟩ | ⟨e, c3⟩⟩⟩
  · rw [e]; exact ⟨fun q => absurd q (by decide), fun q => by exfalso; omega⟩
  · rw [e]; exact ⟨fun q => absurd q (by decide), fun q => by exfalso; omega⟩
  · rw [e]; exact ⟨fun q => absurd q (by decide), fun q => by exfalso; omega⟩
  · rw [e]; exact ⟨fun _ => by omega, fun _ => rfl⟩
/-! loads -/
theorem pt_ld0 (h : pOK M) {k : Nat} (hk : k < nY M) : M 16 k < nI (nF M) := by
  have hI := h.I
  have h30 := hI.f30
  obtain ⟨e, hf⟩ := hI.fk hk
  rw [e]
  exact (nI_ltI (by omega) (by omega)).mpr hf
theorem pt_ld1 (h : pOK M) {k : Nat} (hk : k < nY M) : ¬ M 17 k ≤ 0 ∧ ¬ (30 : Int32) < M 17 k := by
  have l := h.J.2.2.L.2.1 k (by omega) hk
  rw [jV_at] at l
  have e : (30 : Int32).toInt = 30 := by decide
  rw [i_le, i_lt, i_0, e]
  omega
theorem pt_ld2 (h : pOK M) {k : Nat} (hk : k < nY M) : ¬ M 19 0 ≤ M 18 k := by
  have l := h.J.2.2.L.2.2.1 k hk
  rw [jV_at] at l
  rw [i_le]; omega
theorem pt_ld3 (h : pOK M) {k : Nat} (hk : k < nY M) (h0 : 0 < k) : ¬ M 18 k < M 18 (k - 1) := by
  have l := h.J.2.2.L.2.2.2 (k - 1) (by omega)
  rw [jV_at, jV_at, show k - 1 + 1 = k by omega] at l
  rw [i_lt]; omega
/-! sums -/
theorem pt_rows (h : pOK M) : (sTo (M 11) (nF M)).toInt = jS (jV M 11) (nF M) ∧ (sTo (M 12) (nF M)).toInt = jS (jV M 12) (nF M) ∧ (sTo (M 13) (nF M)).toInt = jS (jV M 13) (nF M) ∧ (sTo (M 17) (nY M)).toInt = jS (jV M 17) (nY M) ∧ (sTo (M 3) 6).toInt = jS (jV M 3) 6 ∧ (sTo (M 4) 6).toInt = jS (jV M 4) 6 := by
  obtain ⟨w0, w1, J⟩ := h.J
  obtain ⟨c1, c2, c3⟩ := J.cr
  have F : ∀ f, f < nF M → 0 ≤ (M 11 f).toInt ∧ 0 ≤ (M 12 f).toInt ∧ 0 ≤ (M 13 f).toInt := fun f hf => by
    have F := pt_F h hf
    unfold jF1 at F
    omega
  have t1 := J.T.1
  have t2 := J.T.2.1
  have g1 := J.H.2.1
  have g2 := J.H.2.2.1
  refine ⟨j_sTo _ (fun f hf => (F f hf).1) ?_, j_sTo _ (fun f hf => (F f hf).2.1) ?_, j_sTo _ (fun f hf => (F f hf).2.2) ?_, j_sTo _ (fun k hk => (J.ld k hk).1) ?_, j_sTo _ (fun g hg => (J.H.1 g hg).1.1) ?_, j_sTo _ (fun g hg => (J.H.1 g hg).1.2.1) ?_⟩
  · show jS (jV M 11) (nF M) < _; omega
  · show jS (jV M 12) (nF M) < _; omega
  · show jS (jV M 13) (nF M) < _; omega
  · show jS (jV M 17) (nY M) < _; omega
  · show jS (jV M 3) 6 < _; omega
  · show jS (jV M 4) 6 < _; omega
theorem pt_yard (h : pOK M) : sTo (M 11) (nF M) = M 19 7 := by
  obtain ⟨-, -, J⟩ := h.J
  apply Int32.toInt_inj.mp
  rw [(pt_rows h).1, J.T.2.2.2]; rfl
theorem pt_loads (h : pOK M) : sTo (M 17) (nY M) = sTo (M 11) (nF M) := by
  obtain ⟨-, -, J⟩ := h.J
  apply Int32.toInt_inj.mp
  rw [(pt_rows h).1, (pt_rows h).2.2.2.1, J.T.2.2.2, J.T.1]
theorem pt_crushed (h : pOK M) : sTo (M 12) (nF M) = sTo (M 3) 6 := by
  obtain ⟨-, -, J⟩ := h.J
  apply Int32.toInt_inj.mp
  rw [(pt_rows h).2.1, (pt_rows h).2.2.2.2.1, J.H.2.1]
theorem pt_gone (h : pOK M) : sTo (M 13) (nF M) = sTo (M 4) 6 := by
  obtain ⟨-, -, J⟩ := h.J
  apply Int32.toInt_inj.mp
  rw [(pt_rows h).2.2.1, (pt_rows h).2.2.2.2.2, J.H.2.2.1]
theorem pt_400 (h : pOK M) : ¬ (400 : Int32) < sTo (M 11) (nF M) := by
  obtain ⟨-, -, J⟩ := h.J
  have t2 := J.T.2.1
  rw [jV_at] at t2
  have e : (400 : Int32).toInt = 400 := by decide
  rw [pt_yard h, i_lt, e]; omega
theorem pt_sug (h : pOK M) : ¬ sTo (M 3) 6 < M 19 1 := by
  obtain ⟨-, -, J⟩ := h.J
  have t := J.H.2.2.2.2
  rw [jV_at] at t
  rw [i_lt, (pt_rows h).2.2.2.2.1]; omega
/-! growers -/
theorem pt_q0 (h : pOK M) {g : Nat} (hg : g < 6) : ¬ M 1 g < 0 := by
  have := h.J.2.2.Q g hg
  rw [jV_at] at this
  rw [i_lt, i_0]; omega
theorem pt_q1 (h : pOK M) {g : Nat} (hg : g < 6) : ¬ (9999 : Int32) < M 1 g := by
  have := h.J.2.2.Q g hg
  rw [jV_at] at this
  have e : (9999 : Int32).toInt = 9999 := by decide
  rw [i_lt, e]; omega
theorem pt_its (h : pOK M) {g : Nat} (hg : g < 6) : ∀ n, n ≤ nF M → (cItsTo M (nI g) n).toInt = jS (jW (gr M) g (jV M 11)) n ∧ 0 ≤ jS (jW (gr M) g (jV M 11)) n ∧ jS (jW (gr M) g (jV M 11)) n ≤ 9000 := by
  have hI := h.I
  have h30 := hI.f30
  have G2 := h.J.2.2.g2 hg
  have F : ∀ f, f < nF M → 0 ≤ jW (gr M) g (jV M 11) f := jW_ge (fun f hf => by
    have F := pt_F h hf
    unfold jF1 at F
    rw [jV_at]; omega)
  intro n
  induction n with
  | zero => intro _; exact ⟨i_0, by show (0 : Int) ≤ 0; omega, by show (0 : Int) ≤ 9000; omega⟩
  | succ n ih =>
    intro hn
    obtain ⟨h1, h2, h3⟩ := ih (by omega)
    have p := jS_prefix F (n + 1) hn
    have e : jS (jW (gr M) g (jV M 11)) (n + 1) = jS (jW (gr M) g (jV M 11)) n + jW (gr M) g (jV M 11) n := rfl
    refine ⟨?_, p.1, by omega⟩
    have f0 := F n (by omega)
    obtain ⟨eg, eg6⟩ := hI.g (f := n) (by omega)
    unfold cItsTo
    by_cases c : gr M n = g
    · have ew : jW (gr M) g (jV M 11) n = (M 11 n).toInt := if_pos c
      rw [if_pos (by rw [eg, c])]
      rw [i_add (by omega) (by omega), h1, e, ew]
    · have ew : jW (gr M) g (jV M 11) n = 0 := if_neg c
      rw [if_neg (fun q => c ((nI_eq (by omega) (by omega)).mp (eg.symm.trans q)))]
      omega
theorem pt_g1 (h : pOK M) {g : Nat} (hg : g < 6) : M 2 g = M 3 g + cItsTo M (nI g) (nF M) := by
  obtain ⟨e1, e2, e3⟩ := pt_its h hg (nF M) (Nat.le_refl _)
  obtain ⟨-, -, J⟩ := h.J
  have a := (J.H.1 g hg).2
  have b := J.g3 hg
  simp only [jV_at] at a b
  apply Int32.toInt_inj.mp
  rw [i_add (by omega) (by omega), e1]
  exact a
/-! what is read -/
theorem ct_0 (M : kN) (n z : Nat) : cCt M n z 0 = M 19 0 := rfl
theorem ct_1 (hI : cI M) (n z : Nat) : cCt M n z 1 = nI (nF M) := hI.f
theorem ct_3 (M : kN) (n z : Nat) : cCt M n z 3 = M 19 7 := rfl
theorem ct_4 (hI : cI M) (n z : Nat) : cCt M n z 4 = nI (nY M) := hI.y
theorem ct_5 (M : kN) (n z : Nat) : cCt M n z 5 = sTo (M 3) 6 := rfl
theorem ct_6 (M : kN) (n z : Nat) : cCt M n z 6 = M 19 1 := rfl
theorem ct_7 (M : kN) (n z : Nat) : cCt M n z 7 = sTo (M 4) 6 := rfl
theorem ct_8 (M : kN) (n z : Nat) : cCt M n z 8 = sTo (M 5) 6 := rfl
theorem ct_13 (M : kN) (n z : Nat) : cCt M n z 13 = M 0 2 := rfl
theorem ct_14 (M : kN) (n z : Nat) : cCt M n z 14 = M 0 3 := rfl
theorem ct_19 (M : kN) (n z : Nat) : cCt M n z 19 = nI z := rfl
theorem of_at (hI : cI M) {f : Nat} (hf : f < nF M) (w : Int32) : cOfField M (nI f) w = (if w = 0 then M 6 f else (if w = 1 then M 7 f else (if w = 2 then M 8 f else (if w = 3 then M 9 f else (if w = 4 then cHow M f (M 19 0) else (if w = 5 then M 10 f else (if w = 6 then M 11 f else (if w = 7 then M 12 f else (if w = 8 then M 13 f else (if w = 9 then sPur (M 9 f) (M 8 f) (M 19 0) (M 0 4) else -2)))))))))) := by
  have h30 := hI.f30
  have hp : pIn (nI f) 0 (M 19 4 - 1) := by
    rw [hI.f, show nF M = nF M - 1 + 1 by omega, nI_pred]
    exact pIn_nI (by omega) (by omega)
  unfold cOfField
  rw [if_pos hp, nI_clamp (by omega)]
theorem of_0 (hI : cI M) {f : Nat} (hf : f < nF M) : cOfField M (nI f) 0 = M 6 f := of_at hI hf 0
theorem of_1 (hI : cI M) {f : Nat} (hf : f < nF M) : cOfField M (nI f) 1 = M 7 f := of_at hI hf 1
theorem of_2 (hI : cI M) {f : Nat} (hf : f < nF M) : cOfField M (nI f) 2 = M 8 f := of_at hI hf 2
theorem of_4 (hI : cI M) {f : Nat} (hf : f < nF M) : cOfField M (nI f) 4 = cHow M f (M 19 0) := of_at hI hf 4
theorem of_5 (hI : cI M) {f : Nat} (hf : f < nF M) : cOfField M (nI f) 5 = M 10 f := of_at hI hf 5
theorem of_6 (hI : cI M) {f : Nat} (hf : f < nF M) : cOfField M (nI f) 6 = M 11 f := of_at hI hf 6
theorem of_7 (hI : cI M) {f : Nat} (hf : f < nF M) : cOfField M (nI f) 7 = M 12 f := of_at hI hf 7
theorem of_8 (hI : cI M) {f : Nat} (hf : f < nF M) : cOfField M (nI f) 8 = M 13 f := of_at hI hf 8
theorem of_9 (hI : cI M) {f : Nat} (hf : f < nF M) : cOfField M (nI f) 9 = sPur (M 9 f) (M 8 f) (M 19 0) (M 0 4) := of_at hI hf 9
theorem og_at {g : Nat} (hg : g < 6) (w : Int32) : cOfGrower M (nI g) w = (if w = 0 then M 1 g else (if w = 1 then M 2 g else (if w = 2 then M 3 g else (if w = 3 then M 4 g else (if w = 4 then M 5 g else (if w = 5 then cBurntTo M (nI g) (M 19 0) (nF M) else -2)))))) := by
  have hp : pIn (nI g) 0 5 := pIn_nI (b := 5) (by omega) (by omega)
  unfold cOfGrower
  rw [if_pos hp, nI_clamp (by omega)]
theorem og_0 {g : Nat} (hg : g < 6) : cOfGrower M (nI g) 0 = M 1 g := og_at hg 0
theorem og_1 {g : Nat} (hg : g < 6) : cOfGrower M (nI g) 1 = M 2 g := og_at hg 1
theorem og_2 {g : Nat} (hg : g < 6) : cOfGrower M (nI g) 2 = M 3 g := og_at hg 2
theorem og_3 {g : Nat} (hg : g < 6) : cOfGrower M (nI g) 3 = M 4 g := og_at hg 3
theorem og_4 {g : Nat} (hg : g < 6) : cOfGrower M (nI g) 4 = M 5 g := og_at hg 4
theorem og_5 {g : Nat} (hg : g < 6) : cOfGrower M (nI g) 5 = cBurntTo M (nI g) (M 19 0) (nF M) := og_at hg 5
theorem lo_at (hI : cI M) {k : Nat} (hk : k < nY M) (w : Int32) : cLoad M (nI k) w = (if w = 0 then M 16 k else (if w = 1 then M 17 k else (if w = 2 then M 18 k else -2))) := by
  have h400 := hI.y400
  have hp : pIn (nI k) 0 (M 19 6 - 1) := by
    rw [hI.y, show nY M = nY M - 1 + 1 by omega, nI_pred]
    exact pIn_nI (by omega) (by omega)
  unfold cLoad
  rw [if_pos hp, nI_clamp (by omega)]
theorem lo_0 (hI : cI M) {k : Nat} (hk : k < nY M) : cLoad M (nI k) 0 = M 16 k := lo_at hI hk 0
theorem lo_1 (hI : cI M) {k : Nat} (hk : k < nY M) : cLoad M (nI k) 1 = M 17 k := lo_at hI hk 1
theorem lo_2 (hI : cI M) {k : Nat} (hk : k < nY M) : cLoad M (nI k) 2 = M 18 k := lo_at hI hk 2
theorem lo_no (hI : cI M) (w : Int32) : cLoad M (nI (nY M)) w = -1 := by
  have h400 := hI.y400
  unfold cLoad
  rw [if_neg]
  intro hp
  rw [hI.y] at hp
  obtain ⟨j, e, hj⟩ := pIn_lt (by omega) hp
  have := (nI_eq (by omega) (by omega)).mp e
  omega
end FA
