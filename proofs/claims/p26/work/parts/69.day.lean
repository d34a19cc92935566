/-! p26: the mill's numbers through a day -/
def pI (w d : Int) (z : Nat) (M : kN) : Prop := cI M ∧ (M 19 0).toInt = w ∧ jI w d z (jV M) (gr M) (fi M) (nF M) (nY M)
/-- what was lost and paid is no less then, and no more sugar is made than so much -/
def pM (c : Int) (M N : kN) : Prop := N 0 = M 0 ∧ N 19 0 = M 19 0 ∧ jS (jV M 4) 6 ≤ jS (jV N 4) 6 ∧ jS (jV M 5) 6 ≤ jS (jV N 5) 6 ∧ (N 19 1).toInt ≤ (M 19 1).toInt + c
theorem pM.rf (M : kN) : pM 0 M M := ⟨rfl, rfl, Int.le_refl _, Int.le_refl _, by omega⟩
theorem pM.tr {a b : Int} {M N K : kN} (h : pM a M N) (g : pM b N K) : pM (a + b) M K := by
  obtain ⟨h1, h2, h3, h4, h5⟩ := h
  obtain ⟨g1, g2, g3, g4, g5⟩ := g
  exact ⟨g1.trans h1, g2.trans h2, Int.le_trans h3 g3, Int.le_trans h4 g4, by omega⟩
theorem jV_at (M : kN) (q k : Nat) : jV M q k = (M q k).toInt := rfl
theorem kmin_i (a b : Int32) : ((kmin a b).toInt = a.toInt ∧ a.toInt ≤ b.toInt) ∨ ((kmin a b).toInt = b.toInt ∧ b.toInt ≤ a.toInt) := by
  unfold kmin
  by_cases h : b < a
  · rw [if_pos h]; rw [i_lt] at h; exact Or.inr ⟨rfl, by omega⟩
  · rw [if_neg h]; rw [i_lt] at h; exact Or.inl ⟨rfl, by omega⟩
theorem kmax0_i (a : Int32) : ((kmax 0 a).toInt = 0 ∧ a.toInt ≤ 0) ∨ ((kmax 0 a).toInt = a.toInt ∧ 0 ≤ a.toInt) := by
  unfold kmax
  by_cases h : (0 : Int32) < a
  · rw [if_pos h]; rw [i_lt, i_0] at h; exact Or.inr ⟨rfl, by omega⟩
  · rw [if_neg h]; rw [i_lt, i_0] at h; exact Or.inl ⟨i_0, by omega⟩
theorem j_nat {x : Int32} (h : 0 ≤ x.toInt) : ∃ k : Nat, k < 2 ^ 31 ∧ x = nI k ∧ x.toInt = k := by
  obtain ⟨k, hk, rfl⟩ := nI_of (x := x) (by rw [i_lt, i_0]; omega)
  exact ⟨k, hk, rfl, nI_toInt hk⟩
theorem j_how {now b l g : Int32} : (sHow now b l g = 0 ∧ now.toInt < b.toInt) ∨ (b.toInt ≤ now.toInt ∧ ((sHow now b l g = 1 ∧ 0 < l.toInt) ∨ (l.toInt ≤ 0 ∧ ((sHow now b l g = 2 ∧ g.toInt ≤ 0) ∨ (sHow now b l g = 3 ∧ 0 < g.toInt))))) := by
  unfold sHow
  by_cases c1 : b ≤ now
  · rw [if_pos c1]
    rw [i_le] at c1
    refine Or.inr ⟨c1, ?_⟩
    by_cases c2 : l ≤ 0
    · rw [if_pos c2]
      rw [i_le, i_0] at c2
      refine Or.inr ⟨c2, ?_⟩
      by_cases c3 : g ≤ 0
      · rw [if_pos c3]; rw [i_le, i_0] at c3; exact Or.inl ⟨rfl, c3⟩
      · rw [if_neg c3]; rw [i_le, i_0] at c3; exact Or.inr ⟨rfl, by omega⟩
    · rw [if_neg c2]; rw [i_le, i_0] at c2; exact Or.inl ⟨rfl, by omega⟩
  · rw [if_neg c1]; rw [i_le] at c1; exact Or.inl ⟨rfl, by omega⟩
theorem j_how1 {now b l g : Int32} (h : sHow now b l g = 1) : b.toInt ≤ now.toInt ∧ 0 < l.toInt := by
  rcases j_how (now := now) (b := b) (l := l) (g := g) with ⟨e, -⟩ | ⟨h1, ⟨-, h2⟩ | ⟨-, ⟨e, -⟩ | ⟨e, -⟩⟩⟩
  · rw [e] at h; exact absurd h (by decide)
  · exact ⟨h1, h2⟩
  · rw [e] at h; exact absurd h (by decide)
  · rw [e] at h; exact absurd h (by decide)
/-- a purity lies between 0 and the field's -/
theorem j_pur {b p w l : Int32} (hb : 0 ≤ b.toInt ∧ b.toInt ≤ 999) (hp : 1 ≤ p.toInt ∧ p.toInt ≤ 100) (hw : 0 ≤ w.toInt ∧ w.toInt ≤ 2000) (hl : 0 ≤ l.toInt ∧ l.toInt ≤ 100) : 0 ≤ (sPur b p w l).toInt ∧ (sPur b p w l).toInt ≤ p.toInt ∧ (w.toInt < b.toInt → (sPur b p w l).toInt = p.toInt) := by
  unfold sPur
  have e1 : (w - b).toInt = w.toInt - b.toInt := i_sub (by omega) (by omega)
  have ha : 0 ≤ (kmax 0 (w - b)).toInt ∧ (kmax 0 (w - b)).toInt ≤ 2000 ∧ (w.toInt < b.toInt → (kmax 0 (w - b)).toInt = 0) := by
    rcases kmax0_i (w - b) with ⟨h1, h2⟩ | ⟨h1, h2⟩ <;> omega
  generalize kmax 0 (w - b) = a at ha ⊢
  obtain ⟨x, hx, rfl, ex⟩ := j_nat (x := l) (by omega)
  obtain ⟨y, hy, rfl, ey⟩ := j_nat (x := a) (by omega)
  have hx2 : x ≤ 100 := by omega
  have hy2 : y ≤ 2000 := by omega
  have hm : x * y ≤ 100 * 2000 := Nat.mul_le_mul hx2 hy2
  have h0 : w.toInt < b.toInt → x * y = 0 := fun q => by
    have : y = 0 := by have := ha.2.2 q; omega
    rw [this, Nat.mul_zero]
  rw [pk_mul]
  have e2 : (p - nI (x * y)).toInt = p.toInt - ((x * y : Nat) : Int) := by
    rw [i_sub] <;> rw [nI_toInt (by omega)] <;> omega
  generalize x * y = v at hm h0 e2 ⊢
  rcases kmax0_i (p - nI v) with ⟨h1, h2⟩ | ⟨h1, h2⟩ <;> omega
/-- sugar and payment of a part -/
theorem j_sug {t u r : Int32} (ht : 0 ≤ t.toInt ∧ t.toInt ≤ 30) (hu : 0 ≤ u.toInt ∧ u.toInt ≤ 100) (hr : 0 ≤ r.toInt ∧ r.toInt ≤ 999) : (0 ≤ (t * u / 100).toInt ∧ (t * u / 100).toInt ≤ t.toInt) ∧ 0 ≤ (t * u * r / 100).toInt ∧ (t * u * r / 100).toInt ≤ 999 * t.toInt := by
  obtain ⟨a, ha, rfl, ea⟩ := j_nat ht.1
  obtain ⟨b, hb, rfl, eb⟩ := j_nat hu.1
  obtain ⟨c, hc, rfl, ec⟩ := j_nat hr.1
  have ha2 : a ≤ 30 := by omega
  have hb2 : b ≤ 100 := by omega
  have hc2 : c ≤ 999 := by omega
  have m1 : a * b ≤ a * 100 := Nat.mul_le_mul_left a hb2
  have m2 : a * b * c ≤ a * b * 999 := Nat.mul_le_mul_left (a * b) hc2
  rw [pk_mul, pk_mul, show (100 : Int32) = nI 100 from rfl, pk_div (by omega) (by omega) (by omega), pk_div (by omega) (by omega) (by omega), nI_toInt (show a * b / 100 < 2 ^ 31 by omega), nI_toInt (show a * b * c / 100 < 2 ^ 31 by omega), ea]
  omega
section LO
variable {w d : Int} {z : Nat} {M : kN}
theorem pI.loseStep (h : pI w d z M) {f : Nat} (hf : f < nF M) : pI w d z (cLoseStep M f) ∧ pM 0 M (cLoseStep M f) := by
  obtain ⟨hI, hw, hJ⟩ := id h
  have hI2 := (cLoseStep_I hI f).1
  revert hI2
  unfold cLoseStep
  split
  · intro _; exact ⟨h, pM.rf M⟩
  · rename_i c
    intro hI2
    have F1 := hJ.F hf
    simp only [jF1, jV] at F1
    have hS := hJ.S
    simp only [jSet, jV] at hS
    have hR := hJ.R
    have hg := (hI.g hf).2
    have g3 := hJ.g3 hg
    simp only [jV] at g3
    have r1 := i_rng (M 19 0)
    have e1 : (M 19 0 - M 9 f).toInt = (M 19 0).toInt - (M 9 f).toInt := i_sub (by omega) (by omega)
    rw [i_le, e1] at c
    have e2 : (M 13 f + M 10 f).toInt = (M 13 f).toInt + (M 10 f).toInt := i_add (by omega) (by omega)
    have e3 : (M 4 (gr M f) + M 10 f).toInt = (M 4 (gr M f)).toInt + (M 10 f).toInt := i_add (by omega) (by omega)
    have e : jV (sM (cLoseCane M f) 4 (gr M f) (M 4 (gr M f) + M 10 f)) = jLoseV (jV M) (gr M) f := by
      unfold cLoseCane
      rw [jV_sM, jV_sM, jV_sM, e2, e3, i_0]
      rfl
    have hb : jV M 9 f ≤ w := by rw [jV_at]; omega
    refine ⟨⟨hI2, hw, ?_⟩, rfl, rfl, ?_, ?_, ?_⟩
    · rw [e]; exact hJ.lose hf hb
    · rw [e]
      show jS (jV M 4) 6 ≤ jS (jU (jV M 4) (gr M f) (jV M 4 (gr M f) + jV M 10 f)) 6
      rw [jS_updi hg]
      simp only [jV]
      omega
    · exact Int.le_refl _
    · show (M 19 1).toInt ≤ (M 19 1).toInt + 0
      omega
theorem pI.loseTo (h : pI w d z M) : ∀ k, k ≤ nF M → pI w d z (cLoseTo M k) ∧ pM 0 M (cLoseTo M k)
  | 0, _ => ⟨h, pM.rf M⟩
  | k + 1, hk => by
    obtain ⟨h1, h2⟩ := pI.loseTo h k (by omega)
    obtain ⟨h3, h4⟩ := h1.loseStep (f := k) (by rw [(cLoseTo_I h.1 k).2]; omega)
    exact ⟨h3, h2.tr h4⟩
theorem pI.lose (h : pI w d z M) : pI w d z (cLose M) ∧ pM 0 M (cLose M) := h.loseTo _ (Nat.le_refl _)
theorem cBest_can {M : kN} : ∀ {k b : Nat}, cBest M k = some b → b < k ∧ pCan M b
  | 0, b, h => by cases h
  | k + 1, b, h => by
    unfold cBest at h
    split at h
    · rename_i hc
      unfold cBetter at h
      split at h
      · cases h; exact ⟨by omega, hc⟩
      · rename_i b0 hb
        have := cBest_can hb
        split at h
        · cases h; exact ⟨by omega, hc⟩
        · cases h; exact ⟨by omega, this.2⟩
    · have := cBest_can h
      exact ⟨by omega, this.2⟩
theorem cNextO_can {M : kN} {b : Nat} (h : cNextO M = some b) : b < nF M ∧ pCan M b ∧ 0 < cRoom M := by
  unfold cNextO at h
  split at h
  · rename_i c
    have := cBest_can h
    exact ⟨this.1, this.2, c⟩
  · cases h
theorem pI.room (h : pI w d z M) (c : 0 < cRoom M) : nY M < 400 ∧ (cRoom M).toInt = (M 0 3).toInt - (M 19 7).toInt ∧ 0 < (cRoom M).toInt := by
  obtain ⟨hI, hw, hJ⟩ := h
  have hS := hJ.S
  simp only [jSet, jV] at hS
  have h400 := hI.y400
  have hT := hJ.T
  have ht7 : 0 ≤ (M 19 7).toInt := by
    have := (jS_ge (r := jV M 17) (nY M) (fun k hk => (hJ.ld k hk).1)).1
    rw [hT.1] at this
    exact this
  have ht8 : (M 19 7).toInt ≤ 400 := hT.2.1
  unfold cRoom at c ⊢
  by_cases c4 : 400 ≤ M 19 6
  · rw [if_pos c4] at c; exact absurd c (by decide)
  · rw [if_neg c4] at c ⊢
    have e : (M 0 3 - M 19 7).toInt = (M 0 3).toInt - (M 19 7).toInt := i_sub (by omega) (by omega)
    rw [i_lt, i_0] at c
    refine ⟨?_, e, c⟩
    rw [hI.y] at c4
    have := (nI_leI (a := 400) (b := nY M) (by omega) (by omega)).mpr
    by_cases c5 : 400 ≤ nY M
    · exact absurd (this c5) c4
    · omega
set_option maxHeartbeats 4000000 in
theorem pI.bringStep (h : pI w (w + 1) 0 M) : pI w (w + 1) 0 (cBringStep M) ∧ pM 0 M (cBringStep M) := by
  obtain ⟨hI, hw, hJ⟩ := id h
  cases hc : cNextO M with
  | none => rw [cBringStep_n hc]; exact ⟨h, pM.rf M⟩
  | some f =>
    rw [cBringStep_s hc]
    obtain ⟨hf, ⟨hh, hq⟩, hr⟩ := cNextO_can hc
    obtain ⟨y4, r1, r2⟩ := h.room hr
    have hB := (cBringLoad_I hI hf)
    have F1 := hJ.F hf
    simp only [jF1, jV] at F1
    have hS := hJ.S
    simp only [jSet, jV] at hS
    have hg := (hI.g hf).2
    have g2 := hJ.g2 hg
    simp only [jV] at g2
    have hQ := hJ.Q (gr M f) hg
    rw [jV_at] at hQ
    have h1 := j_how1 hh
    rw [i_lt, i_0] at hq
    have ht8 : (M 19 7).toInt ≤ 400 := hJ.T.2.1
    have ht7 : 0 ≤ (M 19 7).toInt := by
      have := (jS_ge (r := jV M 17) (nY M) (fun k hk => (hJ.ld k hk).1)).1
      rw [hJ.T.1] at this
      exact this
    have hL : cLeaves M f 19 6 < 400 := by
      show M 19 6 < 400
      rw [hI.y]
      exact (nI_ltI (a := nY M) (b := 400) (by omega) (by omega)).mpr y4
    have t0 : 1 ≤ (cTonnes M f).toInt ∧ (cTonnes M f).toInt ≤ 30 ∧ (cTonnes M f).toInt ≤ (M 10 f).toInt ∧ (cTonnes M f).toInt ≤ (M 1 (gr M f)).toInt ∧ (cTonnes M f).toInt ≤ (cRoom M).toInt := by
      unfold cTonnes
      have a1 := kmin_i (M 0 1) (M 10 f)
      have a2 := kmin_i (M 1 (gr M f)) (cRoom M)
      have a3 := kmin_i (kmin (M 0 1) (M 10 f)) (kmin (M 1 (gr M f)) (cRoom M))
      omega
    generalize ct : cTonnes M f = t at t0
    have e : cBringLoad M f = sM (sM (sM (sM (sM (sM (sM (sM (sM (sM M 1 (gr M f) (M 1 (gr M f) - t)) 2 (gr M f) (M 2 (gr M f) + t)) 10 f (M 10 f - t)) 11 f (M 11 f + t)) 16 (nY M) (nI f)) 17 (nY M) t) 18 (nY M) (M 19 0)) 19 6 (M 19 6 + 1)) 19 7 (M 19 7 + t)) 19 2 (cArr M f 19 2 + 1) := by
      unfold cBringLoad
      congr 1
      unfold cArr cAppend
      rw [if_pos hL]
      unfold cLeaves
      rw [ct]
      rfl
    have x1 : (M 1 (gr M f) - t).toInt = (M 1 (gr M f)).toInt - t.toInt := i_sub (by omega) (by omega)
    have x2 : (M 2 (gr M f) + t).toInt = (M 2 (gr M f)).toInt + t.toInt := i_add (by omega) (by omega)
    have x3 : (M 10 f - t).toInt = (M 10 f).toInt - t.toInt := i_sub (by omega) (by omega)
    have x4 : (M 11 f + t).toInt = (M 11 f).toInt + t.toInt := i_add (by omega) (by omega)
    have x5 : (M 19 7 + t).toInt = (M 19 7).toInt + t.toInt := i_add (by omega) (by omega)
    have ev : jV (cBringLoad M f) = jBringV (jV M) (gr M) (nY M) f t.toInt w (nI f).toInt (M 19 6 + 1).toInt (cArr M f 19 2 + 1).toInt := by
      rw [e, jV_sM, jV_sM, jV_sM, jV_sM, jV_sM, jV_sM, jV_sM, jV_sM, jV_sM, jV_sM, x1, x2, x3, x4, x5, hw]
      rfl
    have h30 := hI.f30
    have eF : fi (cBringLoad M f) = fun k => if k = nY M then f else fi M k := by
      funext k
      show (cBringLoad M f 16 k).toNatClampNeg = _
      rw [e]
      show (upd (M 16) (nY M) (nI f) k).toNatClampNeg = _
      unfold upd
      split
      · rw [nI_clamp (by omega)]
      · rfl
    have eG : gr (cBringLoad M f) = gr M := by rw [e]; rfl
    have eN : nF (cBringLoad M f) = nF M := hB.2
    have eY : nY (cBringLoad M f) = nY M + 1 := by
      show (cBringLoad M f 19 6).toNatClampNeg = _
      rw [e]
      show (M 19 6 + 1).toNatClampNeg = _
      rw [hI.y, nI_1, nI_clamp (by omega)]
    refine ⟨⟨hB.1, ?_, ?_⟩, ?_⟩
    · rw [e]; exact hw
    · rw [ev, eF, eG, eN, eY]
      exact hJ.bring hf (fun k hk => if_neg (by omega)) (if_pos rfl) (by rw [jV_at]; omega) (by omega) (by rw [jV_at]; omega) (by rw [jV_at]; omega) (by rw [jV_at]; omega) y4
    · rw [e]
      refine ⟨rfl, rfl, Int.le_refl _, Int.le_refl _, ?_⟩
      show (M 19 1).toInt ≤ (M 19 1).toInt + 0
      omega
theorem pI.bringTo (h : pI w (w + 1) 0 M) : ∀ k, pI w (w + 1) 0 (cBringTo M k) ∧ pM 0 M (cBringTo M k)
  | 0 => ⟨h, pM.rf M⟩
  | k + 1 => by
    obtain ⟨h1, h2⟩ := pI.bringTo h k
    obtain ⟨h3, h4⟩ := h1.bringStep
    exact ⟨h3, h2.tr h4⟩
set_option maxHeartbeats 4000000 in
/-- a load's part is crushed -/
theorem pI.partStep {k : Nat} (h : pI w d k M) (hw2 : w ≤ 2000) (hk : k < nY M) {p : Int32} (hp : 0 ≤ p.toInt ∧ p.toInt ≤ (M 17 k).toInt) : pI w d (if M 17 k - p = 0 then k + 1 else k) (cTake (cCrushPart M (fi M k) p) k p) ∧ pM p.toInt M (cTake (cCrushPart M (fi M k) p) k p) := by
  obtain ⟨hI, hw, hJ⟩ := id h
  have hf := (hI.fk hk).2
  have hg := (hI.g hf).2
  have F1 := hJ.F hf
  simp only [jF1, jV] at F1
  have hS := hJ.S
  simp only [jSet, jV] at hS
  have hld := hJ.ld k hk
  rw [jV_at] at hld
  have hin := hJ.in1 hk
  simp only [jV] at hin
  have hR := hJ.R
  have g3 := hJ.g3 hg
  simp only [jV] at g3
  have cr := hJ.cr
  have hG := hJ.H
  have hs1 : 0 ≤ (M 19 1).toInt ∧ (M 19 1).toInt ≤ 9000 := by
    have a := hG.2.2.2.1
    have b := hG.2.2.2.2
    have e := hG.2.1
    rw [jV_at] at a b
    omega
  have ht8 : (M 19 7).toInt ≤ 400 := hJ.T.2.1
  have ht7 : (M 17 k).toInt ≤ (M 19 7).toInt := by
    have := (jS_ge (r := jV M 17) (nY M) (fun j hj => (hJ.ld j hj).1)).2 k hk
    rw [hJ.T.1] at this
    exact this
  have hpu := j_pur (b := M 9 (fi M k)) (p := M 8 (fi M k)) (w := M 19 0) (l := M 0 4) (by omega) (by omega) (by omega) (by omega)
  obtain ⟨s1, s2⟩ := j_sug (t := p) (u := sPur (M 9 (fi M k)) (M 8 (fi M k)) (M 19 0) (M 0 4)) (r := M 0 6) (by omega) (by omega) (by omega)
  have hCI := cTake_I (cCrushPart_I hI (fi M k) p) k p
  have e : cTake (cCrushPart M (fi M k) p) k p = sM (sM (sM (sM (sM (sM (sM M 19 1 (M 19 1 + p * sPur (M 9 (fi M k)) (M 8 (fi M k)) (M 19 0) (M 0 4) / 100)) 5 (gr M (fi M k)) (M 5 (gr M (fi M k)) + p * sPur (M 9 (fi M k)) (M 8 (fi M k)) (M 19 0) (M 0 4) * M 0 6 / 100)) 3 (gr M (fi M k)) (M 3 (gr M (fi M k)) + p)) 11 (fi M k) (M 11 (fi M k) - p)) 12 (fi M k) (M 12 (fi M k) + p)) 17 k (M 17 k - p)) 19 7 (M 19 7 - p) := rfl
  generalize p * sPur (M 9 (fi M k)) (M 8 (fi M k)) (M 19 0) (M 0 4) / 100 = s at s1 e
  generalize p * sPur (M 9 (fi M k)) (M 8 (fi M k)) (M 19 0) (M 0 4) * M 0 6 / 100 = x at s2 e
  rw [e] at hCI ⊢
  have x1 : (M 19 1 + s).toInt = (M 19 1).toInt + s.toInt := i_add (by omega) (by omega)
  have x2 : (M 5 (gr M (fi M k)) + x).toInt = (M 5 (gr M (fi M k))).toInt + x.toInt := i_add (by omega) (by omega)
  have x3 : (M 3 (gr M (fi M k)) + p).toInt = (M 3 (gr M (fi M k))).toInt + p.toInt := i_add (by omega) (by omega)
  have x4 : (M 11 (fi M k) - p).toInt = (M 11 (fi M k)).toInt - p.toInt := i_sub (by omega) (by omega)
  have x5 : (M 12 (fi M k) + p).toInt = (M 12 (fi M k)).toInt + p.toInt := i_add (by omega) (by omega)
  have x6 : (M 17 k - p).toInt = (M 17 k).toInt - p.toInt := i_sub (by omega) (by omega)
  have x7 : (M 19 7 - p).toInt = (M 19 7).toInt - p.toInt := i_sub (by omega) (by omega)
  have ev : jV (sM (sM (sM (sM (sM (sM (sM M 19 1 (M 19 1 + s)) 5 (gr M (fi M k)) (M 5 (gr M (fi M k)) + x)) 3 (gr M (fi M k)) (M 3 (gr M (fi M k)) + p)) 11 (fi M k) (M 11 (fi M k) - p)) 12 (fi M k) (M 12 (fi M k) + p)) 17 k (M 17 k - p)) 19 7 (M 19 7 - p)) = jPartV (jV M) (gr M) k (fi M k) p.toInt s.toInt x.toInt := by
    rw [jV_sM, jV_sM, jV_sM, jV_sM, jV_sM, jV_sM, jV_sM, x1, x2, x3, x4, x5, x6, x7]
    rfl
  have ez : (if M 17 k - p = 0 then k + 1 else k) = if jV M 17 k - p.toInt = 0 then k + 1 else k := by
    by_cases c : M 17 k - p = 0
    · rw [if_pos c, if_pos (by rw [jV_at, ← x6, c]; rfl)]
    · rw [if_neg c, if_neg (fun q => c (Int32.toInt_inj.mp (by rw [x6, i_0]; exact q)))]
  refine ⟨⟨hCI, hw, ?_⟩, rfl, rfl, ?_, ?_, ?_⟩
  · rw [ev, ez]
    exact hJ.part hk (by rw [jV_at]; omega) (by omega) (by omega)
  · exact Int.le_refl _
  · rw [ev]
    show jS (jV M 5) 6 ≤ jS (jU (jV M 5) (gr M (fi M k)) (jV M 5 (gr M (fi M k)) + x.toInt)) 6
    rw [jS_updi hg]
    omega
  · show (M 19 1 + s).toInt ≤ (M 19 1).toInt + p.toInt
    omega
theorem pI.crushTo (h : pI w d 0 M) (hw2 : w ≤ 2000) : ∀ k, k ≤ nY M → pI w d (cCrushTo M k).2.2 (cCrushTo M k).1 ∧ (0 ≤ (cCrushTo M k).2.1.toInt ∧ (cCrushTo M k).2.1.toInt ≤ (M 0 2).toInt) ∧ (0 < (cCrushTo M k).2.1.toInt → (cCrushTo M k).2.2 = k) ∧ pM ((M 0 2).toInt - (cCrushTo M k).2.1.toInt) M (cCrushTo M k).1
  | 0, _ => by
    have hS := h.2.2.S
    simp only [jSet, jV] at hS
    refine ⟨h, ⟨by show 0 ≤ (M 0 2).toInt; omega, by show (M 0 2).toInt ≤ _; omega⟩, fun _ => rfl, ?_⟩
    show pM ((M 0 2).toInt - (M 0 2).toInt) M M
    rw [Int.sub_self]
    exact pM.rf M
  | k + 1, hk => by
    obtain ⟨h1, h2, h3, h4⟩ := pI.crushTo h hw2 k (by omega)
    obtain ⟨-, -, hy, -⟩ := cCrushTo_I h.1 k
    unfold cCrushTo
    generalize cCrushTo M k = T at h1 h2 h3 h4 hy ⊢
    obtain ⟨N, r, e⟩ := T
    dsimp only at h1 h2 h3 h4 hy ⊢
    by_cases c : r ≤ 0
    · rw [if_pos c]
      rw [i_le, i_0] at c
      exact ⟨h1, h2, fun q => absurd (show (0 : Int) < r.toInt from q) (by omega), h4⟩
    · rw [if_neg c]
      rw [i_le, i_0] at c
      have e2 := h3 (by omega)
      subst e2
      have hk2 : e < nY N := by omega
      have hld := h1.2.2.ld e hk2
      rw [jV_at] at hld
      have hm := kmin_i r (N 17 e)
      generalize kmin r (N 17 e) = p at hm ⊢
      obtain ⟨a1, a2⟩ := h1.partStep hw2 hk2 (p := p) (by omega)
      have rr := i_rng r
      have x1 : (r - p).toInt = r.toInt - p.toInt := i_sub (by omega) (by omega)
      have x2 : (N 17 e - p).toInt = (N 17 e).toInt - p.toInt := i_sub (by omega) (by omega)
      refine ⟨a1, (show 0 ≤ (r - p).toInt ∧ (r - p).toInt ≤ (M 0 2).toInt by omega), fun q => ?_, ?_⟩
      · have q : 0 < (r - p).toInt := q
        have : N 17 e - p = 0 := Int32.toInt_inj.mp (by rw [x2, i_0]; omega)
        rw [if_pos this]
      · have := h4.tr a2
        rw [show (M 0 2).toInt - (r - p).toInt = (M 0 2).toInt - r.toInt + p.toInt by omega]
        exact this
theorem pI.dropped (h : pI w d z M) : pI w d 0 (cDrop M z) ∧ pM 0 M (cDrop M z) := by
  obtain ⟨hI, hw, hJ⟩ := id h
  have hz := hJ.R.2.2.1
  obtain ⟨d1, d2, d3⟩ := cDrop_I hI hz
  have h400 := hI.y400
  have er : ∀ q, q ≠ 16 → q ≠ 17 → q ≠ 18 → q ≠ 19 → cDrop M z q = M q := fun q a b c dd => by
    show (if q = 19 then _ else cDropTo M z (nY M - z) q) = _
    rw [if_neg dd, cDropTo_o M z a b c]
  have e19 : ∀ k, k ≠ 6 → cDrop M z 19 k = M 19 k := fun k hk => by
    show upd (cDropTo M z (nY M - z) 19) 6 _ k = _
    rw [upd, if_neg hk, cDropTo_o M z (by decide) (by decide) (by decide)]
  have ek : ∀ q, (q = 16 ∨ q = 17 ∨ q = 18) → ∀ k, k < nY M - z → cDrop M z q k = M q (z + k) := fun q hq k hk => by
    have : cDrop M z q k = cDropTo M z (nY M - z) q k := by rcases hq with rfl | rfl | rfl <;> rfl
    rw [this, cDropTo_q M z hq, if_pos hk]
  have eG : gr (cDrop M z) = gr M := by funext f; unfold gr; rw [er 6 (by decide) (by decide) (by decide) (by decide)]
  refine ⟨⟨d1, by rw [e19 0 (by decide)]; exact hw, ?_⟩, er 0 (by decide) (by decide) (by decide) (by decide), e19 0 (by decide), ?_, ?_, ?_⟩
  · rw [d2, d3, eG]
    refine hJ.drop (fun q a b c dd => ?_) (fun k hk => ?_) (fun k hk => ?_) ?_ ?_ (fun k hk => ?_)
    · funext k; rw [jV_at, jV_at, er q a b c dd]
    · rw [jV_at, jV_at, ek 17 (by omega) k hk]
    · rw [jV_at, jV_at, ek 18 (by omega) k hk]
    · rw [jV_at, jV_at, e19 1 (by decide)]
    · rw [jV_at, jV_at, e19 7 (by decide)]
    · unfold fi; rw [ek 16 (by omega) k hk]
  · have : jV (cDrop M z) 4 = jV M 4 := by funext k; rw [jV_at, jV_at, er 4 (by decide) (by decide) (by decide) (by decide)]
    rw [this]; exact Int.le_refl _
  · have : jV (cDrop M z) 5 = jV M 5 := by funext k; rw [jV_at, jV_at, er 5 (by decide) (by decide) (by decide) (by decide)]
    rw [this]; exact Int.le_refl _
  · rw [e19 1 (by decide)]; omega
theorem pI.crush (h : pI w d 0 M) (hw2 : w ≤ 2000) : pI w d 0 (cCrush M) ∧ pM (M 0 2).toInt M (cCrush M) := by
  obtain ⟨h1, h2, h3, h4⟩ := h.crushTo hw2 (nY M) (Nat.le_refl _)
  obtain ⟨h5, h6⟩ := h1.dropped
  refine ⟨h5, ?_⟩
  have h7 := h4.tr h6
  obtain ⟨a1, a2, a3, a4, a5⟩ := h7
  exact ⟨a1, a2, a3, a4, by have : (cCrush M 19 1) = (cDrop (cCrushTo M (nY M)).1 (cCrushTo M (nY M)).2.2) 19 1 := rfl; rw [this]; omega⟩
theorem pI.wk (h : pI w d z M) {d' : Int} (hd : d ≤ d') : pI w d' z M := ⟨h.1, h.2.1, h.2.2.wk hd⟩
theorem pI.rest (h : pI w d 0 M) (hw2 : w ≤ 2000) (idle : Prop) [Decidable idle] : pI w d 0 (cRest M idle) ∧ pM (M 0 2).toInt M (cRest M idle) := by
  have hS := h.2.2.S
  simp only [jSet, jV] at hS
  have hI := cRest_I h.1 idle
  revert hI
  unfold cRest
  split
  · intro hI
    refine ⟨⟨hI, h.2.1, ?_⟩, rfl, rfl, Int.le_refl _, Int.le_refl _, ?_⟩
    · exact h.2.2.ext (fun _ _ => rfl) (fun q a b _ _ => by rcases (show q = 1 ∨ q = 2 ∨ q = 3 ∨ q = 4 ∨ q = 5 by omega) with rfl | rfl | rfl | rfl | rfl <;> rfl) (fun q a b _ _ => by rcases (show q = 7 ∨ q = 8 ∨ q = 9 ∨ q = 10 ∨ q = 11 ∨ q = 12 ∨ q = 13 by omega) with rfl | rfl | rfl | rfl | rfl | rfl | rfl <;> rfl) (fun q a b _ _ => by rcases (show q = 17 ∨ q = 18 by omega) with rfl | rfl <;> rfl) rfl rfl (fun _ _ => rfl) (fun _ _ => rfl)
    · show (M 19 1).toInt ≤ (M 19 1).toInt + _
      omega
  · intro _
    exact h.crush hw2
/-- a day -/
def pDy (c : Int) (M N : kN) : Prop := N 0 = M 0 ∧ jS (jV M 4) 6 ≤ jS (jV N 4) 6 ∧ jS (jV M 5) 6 ≤ jS (jV N 5) 6 ∧ (N 19 1).toInt ≤ (M 19 1).toInt + c
theorem pI.day (h : pI w w 0 M) (hw2 : w ≤ 2000) (idle : Prop) [Decidable idle] : pI (w + 1) (w + 1) 0 (cDay M idle) ∧ pDy (M 0 2).toInt M (cDay M idle) := by
  obtain ⟨h1, h2⟩ := (h.wk (d' := w + 1) (by omega)).lose
  obtain ⟨h3, h4⟩ := h1.bringTo (nT (cLose M))
  obtain ⟨h5, h6⟩ := h3.rest hw2 idle
  have h7 := (h2.tr h4).tr h6
  have e0 : cBringTo (cLose M) (nT (cLose M)) 0 = M 0 := h4.1.trans h2.1
  rw [e0] at h7
  have hI := cDay_I h.1 idle
  obtain ⟨r1, r2, r3⟩ := h5
  obtain ⟨a1, a2, a3, a4, a5⟩ := h7
  have hR := r3.R
  refine ⟨⟨hI, ?_, ?_⟩, a1, a3, a4, ?_⟩
  · show (cRest (cBring (cLose M)) idle 19 0 + 1).toInt = w + 1
    have r2 : (cRest (cBring (cLose M)) idle 19 0).toInt = w := r2
    have e1 : (1 : Int32).toInt = 1 := by decide
    rw [i_add (by omega) (by omega), r2, e1]
  · have r3 : jI w (w + 1) 0 (jV (cRest (cBring (cLose M)) idle)) (gr (cRest (cBring (cLose M)) idle)) (fi (cRest (cBring (cLose M)) idle)) (nF (cRest (cBring (cLose M)) idle)) (nY (cRest (cBring (cLose M)) idle)) := r3
    have := r3.next (V' := jV (cDay M idle)) rfl rfl (fun q hq => by
      unfold cDay
      rw [jV_sM]
      exact if_neg hq)
    exact this
  · show (cRest (cBring (cLose M)) idle 19 1).toInt ≤ _
    have a5 : (cRest (cBring (cLose M)) idle 19 1).toInt ≤ (M 19 1).toInt + (0 + 0 + (M 0 2).toInt) := a5
    omega
theorem pI.days (h : pI w w 0 M) (idle : Int32) : ∀ k : Nat, w + k ≤ 2000 → pI (w + k) (w + k) 0 (cDays M idle k) ∧ cDays M idle k 0 = M 0 ∧ jS (jV M 4) 6 ≤ jS (jV (cDays M idle k) 4) 6 ∧ (cDays M idle k 19 1).toInt ≤ (M 19 1).toInt + (M 0 2).toInt * k
  | 0, _ => by
    refine ⟨?_, rfl, Int.le_refl _, ?_⟩
    · show pI (w + ((0 : Nat) : Int)) (w + ((0 : Nat) : Int)) 0 M
      rw [Int.natCast_zero, Int.add_zero]; exact h
    · show (M 19 1).toInt ≤ (M 19 1).toInt + (M 0 2).toInt * ((0 : Nat) : Int)
      rw [Int.natCast_zero, Int.mul_zero]; omega
  | k + 1, hk => by
    obtain ⟨h1, h2, h3, h4⟩ := pI.days h idle k (by omega)
    obtain ⟨h5, h6, h7, h8, h9⟩ := h1.day (by omega) (nI k < idle)
    rw [h2] at h9
    refine ⟨?_, h6.trans h2, Int.le_trans h3 h7, ?_⟩
    · rw [show w + ((k + 1 : Nat) : Int) = w + k + 1 by omega]; exact h5
    · have e2 : (M 0 2).toInt * ((k + 1 : Nat) : Int) = (M 0 2).toInt * k + (M 0 2).toInt := by rw [Int.natCast_add, Int.mul_add, Int.natCast_one, Int.mul_one]
      show (cDay (cDays M idle k) (nI k < idle) 19 1).toInt ≤ _
      omega
end LO
