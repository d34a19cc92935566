/-! what there is: the same answers -/
theorem i_neq {a b : Int32} (h : a.toInt ≠ b.toInt) : ¬ a = b := fun z => h (by rw [z])
theorem aOfField_m {M : kN} {s : kS} (h : kSim M s) (hX : mX s) (f w : Int32) : cOfField M f w = mOfField s f w := by
  have h30 := hX.f30
  unfold cOfField mOfField
  rw [h.1.cF]
  by_cases c1 : pIn f 0 (s 1 - 1)
  · rw [if_pos c1, if_pos c1]
    rw [hX.f] at c1
    obtain ⟨j, rfl, hj⟩ := pIn_lt (by omega) c1
    rw [nI_clamp (by omega)]
    have e := fun i hi => h.1.fd (f := j) (i := i) hj hi
    by_cases c2 : pIn w 0 9
    · rw [if_pos c2]
      obtain ⟨k, rfl, k0, k9⟩ := pIn_nat c2 (show (0 : Int32) = nI 0 from rfl) (show (9 : Int32) = nI 9 from rfl) (by omega) (by omega)
      rw [nI_clamp (by omega)]
      rcases (show k = 0 ∨ k = 1 ∨ k = 2 ∨ k = 3 ∨ k = 4 ∨ k = 5 ∨ k = 6 ∨ k = 7 ∨ k = 8 ∨ k = 9 by omega) with rfl | rfl | rfl | rfl | rfl | rfl | rfl | rfl | rfl | rfl
      · rw [if_pos (show nI 0 = (0 : Int32) by decide), if_neg (show ¬ (4 : Int32) ≤ nI 0 by decide)]; exact e 0 (by omega)
      · rw [if_neg (show ¬ nI 1 = (0 : Int32) by decide), if_pos (show nI 1 = (1 : Int32) by decide), if_neg (show ¬ (4 : Int32) ≤ nI 1 by decide)]; exact e 1 (by omega)
      · rw [if_neg (show ¬ nI 2 = (0 : Int32) by decide), if_neg (show ¬ nI 2 = (1 : Int32) by decide), if_pos (show nI 2 = (2 : Int32) by decide), if_neg (show ¬ (4 : Int32) ≤ nI 2 by decide)]; exact e 2 (by omega)
      · rw [if_neg (show ¬ nI 3 = (0 : Int32) by decide), if_neg (show ¬ nI 3 = (1 : Int32) by decide), if_neg (show ¬ nI 3 = (2 : Int32) by decide), if_pos (show nI 3 = (3 : Int32) by decide), if_neg (show ¬ (4 : Int32) ≤ nI 3 by decide)]; exact e 3 (by omega)
      · rw [if_neg (show ¬ nI 4 = (0 : Int32) by decide), if_neg (show ¬ nI 4 = (1 : Int32) by decide), if_neg (show ¬ nI 4 = (2 : Int32) by decide), if_neg (show ¬ nI 4 = (3 : Int32) by decide), if_pos (show nI 4 = (4 : Int32) by decide), if_pos (show (4 : Int32) ≤ nI 4 by decide), if_pos (show nI 4 = (4 : Int32) by decide)]; exact cHow_m h.1 hj
      · rw [if_neg (show ¬ nI 5 = (0 : Int32) by decide), if_neg (show ¬ nI 5 = (1 : Int32) by decide), if_neg (show ¬ nI 5 = (2 : Int32) by decide), if_neg (show ¬ nI 5 = (3 : Int32) by decide), if_neg (show ¬ nI 5 = (4 : Int32) by decide), if_pos (show nI 5 = (5 : Int32) by decide), if_pos (show (4 : Int32) ≤ nI 5 by decide), if_neg (show ¬ nI 5 = (4 : Int32) by decide), if_neg (show ¬ nI 5 = (9 : Int32) by decide)]; exact e 4 (by omega)
      · rw [if_neg (show ¬ nI 6 = (0 : Int32) by decide), if_neg (show ¬ nI 6 = (1 : Int32) by decide), if_neg (show ¬ nI 6 = (2 : Int32) by decide), if_neg (show ¬ nI 6 = (3 : Int32) by decide), if_neg (show ¬ nI 6 = (4 : Int32) by decide), if_neg (show ¬ nI 6 = (5 : Int32) by decide), if_pos (show nI 6 = (6 : Int32) by decide), if_pos (show (4 : Int32) ≤ nI 6 by decide), if_neg (show ¬ nI 6 = (4 : Int32) by decide), if_neg (show ¬ nI 6 = (9 : Int32) by decide)]; exact e 5 (by omega)
      · rw [if_neg (show ¬ nI 7 = (0 : Int32) by decide), if_neg (show ¬ nI 7 = (1 : Int32) by decide), if_neg (show ¬ nI 7 = (2 : Int32) by decide), if_neg (show ¬ nI 7 = (3 : Int32) by decide), if_neg (show ¬ nI 7 = (4 : Int32) by decide), if_neg (show ¬ nI 7 = (5 : Int32) by decide), if_neg (show ¬ nI 7 = (6 : Int32) by decide), if_pos (show nI 7 = (7 : Int32) by decide), if_pos (show (4 : Int32) ≤ nI 7 by decide), if_neg (show ¬ nI 7 = (4 : Int32) by decide), if_neg (show ¬ nI 7 = (9 : Int32) by decide)]; exact e 6 (by omega)
      · rw [if_neg (show ¬ nI 8 = (0 : Int32) by decide), if_neg (show ¬ nI 8 = (1 : Int32) by decide), if_neg (show ¬ nI 8 = (2 : Int32) by decide), if_neg (show ¬ nI 8 = (3 : Int32) by decide), if_neg (show ¬ nI 8 = (4 : Int32) by decide), if_neg (show ¬ nI 8 = (5 : Int32) by decide), if_neg (show ¬ nI 8 = (6 : Int32) by decide), if_neg (show ¬ nI 8 = (7 : Int32) by decide), if_pos (show nI 8 = (8 : Int32) by decide), if_pos (show (4 : Int32) ≤ nI 8 by decide), if_neg (show ¬ nI 8 = (4 : Int32) by decide), if_neg (show ¬ nI 8 = (9 : Int32) by decide)]; exact e 7 (by omega)
      · rw [if_neg (show ¬ nI 9 = (0 : Int32) by decide), if_neg (show ¬ nI 9 = (1 : Int32) by decide), if_neg (show ¬ nI 9 = (2 : Int32) by decide), if_neg (show ¬ nI 9 = (3 : Int32) by decide), if_neg (show ¬ nI 9 = (4 : Int32) by decide), if_neg (show ¬ nI 9 = (5 : Int32) by decide), if_neg (show ¬ nI 9 = (6 : Int32) by decide), if_neg (show ¬ nI 9 = (7 : Int32) by decide), if_neg (show ¬ nI 9 = (8 : Int32) by decide), if_pos (show nI 9 = (9 : Int32) by decide), if_pos (show (4 : Int32) ≤ nI 9 by decide), if_neg (show ¬ nI 9 = (4 : Int32) by decide), if_pos (show nI 9 = (9 : Int32) by decide)]; exact sPur_m h.1 hj
    · rw [if_neg c2, if_neg (fun (z : w = 0) => c2 (by rw [z]; decide)), if_neg (fun (z : w = 1) => c2 (by rw [z]; decide)), if_neg (fun (z : w = 2) => c2 (by rw [z]; decide)), if_neg (fun (z : w = 3) => c2 (by rw [z]; decide)), if_neg (fun (z : w = 4) => c2 (by rw [z]; decide)), if_neg (fun (z : w = 5) => c2 (by rw [z]; decide)), if_neg (fun (z : w = 6) => c2 (by rw [z]; decide)), if_neg (fun (z : w = 7) => c2 (by rw [z]; decide)), if_neg (fun (z : w = 8) => c2 (by rw [z]; decide)), if_neg (fun (z : w = 9) => c2 (by rw [z]; decide))]
  · rw [if_neg c1, if_neg c1]
theorem aBurnt_m {M : kN} {s : kS} (h : kSim M s) (g : Int32) : ∀ k, k ≤ mF s → cBurntTo M g (M 19 0) k = mBurntTo s g k
  | 0, _ => rfl
  | k + 1, hk => by
    have e0 : M 6 k = s (56 + 8 * k + 0) := h.1.fd (f := k) (i := 0) (by omega) (by omega)
    have e4 : M 10 k = s (56 + 8 * k + 4) := h.1.fd (f := k) (i := 4) (by omega) (by omega)
    unfold cBurntTo mBurntTo
    rw [aBurnt_m h g k (by omega), e0, e4, cHow_m h.1 (f := k) (by omega)]
    by_cases c : s (56 + 8 * k + 0) = g
    · by_cases c2 : mHow s k = 1
      · rw [if_pos ⟨c, c2⟩, if_pos c, if_pos c2]
      · rw [if_neg (fun z => c2 z.2), if_pos c, if_neg c2, Int32.add_zero]
    · rw [if_neg (fun z => c z.1), if_neg c, Int32.add_zero]
theorem aOfGrower_m {M : kN} {s : kS} (h : kSim M s) (g w : Int32) : cOfGrower M g w = mOfGrower s g w := by
  unfold cOfGrower mOfGrower
  by_cases c1 : pIn g 0 5
  · rw [if_pos c1, if_pos c1]
    have hg := pIn_n5 c1
    have eb := aBurnt_m h g (mF s) (Nat.le_refl _)
    rw [(kSim_n h).1, eb]
    have q0 := h.1.qu hg
    have e := fun i hi => h.1.gw (g := g.toNatClampNeg) (i := i) hg hi
    by_cases c2 : pIn w 0 5
    · rw [if_pos c2]
      obtain ⟨k, rfl, k0, k9⟩ := pIn_nat c2 (show (0 : Int32) = nI 0 from rfl) (show (5 : Int32) = nI 5 from rfl) (by omega) (by omega)
      rw [nI_clamp (by omega)]
      rcases (show k = 0 ∨ k = 1 ∨ k = 2 ∨ k = 3 ∨ k = 4 ∨ k = 5 by omega) with rfl | rfl | rfl | rfl | rfl | rfl
      · rw [if_pos (show nI 0 = (0 : Int32) by decide), if_pos (show nI 0 = (0 : Int32) by decide)]; exact q0
      · rw [if_neg (show ¬ nI 1 = (0 : Int32) by decide), if_pos (show nI 1 = (1 : Int32) by decide), if_neg (show ¬ nI 1 = (0 : Int32) by decide), if_neg (show ¬ (5 : Int32) ≤ nI 1 by decide)]; exact e 0 (by omega)
      · rw [if_neg (show ¬ nI 2 = (0 : Int32) by decide), if_neg (show ¬ nI 2 = (1 : Int32) by decide), if_pos (show nI 2 = (2 : Int32) by decide), if_neg (show ¬ nI 2 = (0 : Int32) by decide), if_neg (show ¬ (5 : Int32) ≤ nI 2 by decide)]; exact e 1 (by omega)
      · rw [if_neg (show ¬ nI 3 = (0 : Int32) by decide), if_neg (show ¬ nI 3 = (1 : Int32) by decide), if_neg (show ¬ nI 3 = (2 : Int32) by decide), if_pos (show nI 3 = (3 : Int32) by decide), if_neg (show ¬ nI 3 = (0 : Int32) by decide), if_neg (show ¬ (5 : Int32) ≤ nI 3 by decide)]; exact e 2 (by omega)
      · rw [if_neg (show ¬ nI 4 = (0 : Int32) by decide), if_neg (show ¬ nI 4 = (1 : Int32) by decide), if_neg (show ¬ nI 4 = (2 : Int32) by decide), if_neg (show ¬ nI 4 = (3 : Int32) by decide), if_pos (show nI 4 = (4 : Int32) by decide), if_neg (show ¬ nI 4 = (0 : Int32) by decide), if_neg (show ¬ (5 : Int32) ≤ nI 4 by decide)]; exact e 3 (by omega)
      · rw [if_neg (show ¬ nI 5 = (0 : Int32) by decide), if_neg (show ¬ nI 5 = (1 : Int32) by decide), if_neg (show ¬ nI 5 = (2 : Int32) by decide), if_neg (show ¬ nI 5 = (3 : Int32) by decide), if_neg (show ¬ nI 5 = (4 : Int32) by decide), if_pos (show nI 5 = (5 : Int32) by decide), if_neg (show ¬ nI 5 = (0 : Int32) by decide), if_pos (show (5 : Int32) ≤ nI 5 by decide)]
    · rw [if_neg c2, if_neg (fun (z : w = 0) => c2 (by rw [z]; decide)), if_neg (fun (z : w = 1) => c2 (by rw [z]; decide)), if_neg (fun (z : w = 2) => c2 (by rw [z]; decide)), if_neg (fun (z : w = 3) => c2 (by rw [z]; decide)), if_neg (fun (z : w = 4) => c2 (by rw [z]; decide)), if_neg (fun (z : w = 5) => c2 (by rw [z]; decide))]
  · rw [if_neg c1, if_neg c1]
theorem aLoad_m {M : kN} {s : kS} (h : kSim M s) (hX : mX s) (q w : Int32) : cLoad M q w = mLoad s q w := by
  have h400 := hX.y400
  unfold cLoad mLoad
  rw [h.1.cY]
  by_cases c1 : pIn q 0 (s 296 - 1)
  · rw [if_pos c1, if_pos c1]
    rw [hX.y] at c1
    obtain ⟨j, rfl, hj⟩ := pIn_lt (by omega) c1
    rw [nI_clamp (by omega)]
    have e := fun i hi => h.1.ld (k := j) (i := i) hj hi
    by_cases c2 : pIn w 0 2
    · rw [if_pos c2]
      obtain ⟨k, rfl, k0, k9⟩ := pIn_nat c2 (show (0 : Int32) = nI 0 from rfl) (show (2 : Int32) = nI 2 from rfl) (by omega) (by omega)
      rw [nI_clamp (by omega)]
      rcases (show k = 0 ∨ k = 1 ∨ k = 2 by omega) with rfl | rfl | rfl
      · rw [if_pos (show nI 0 = (0 : Int32) by decide)]; exact e 0 (by omega)
      · rw [if_neg (show ¬ nI 1 = (0 : Int32) by decide), if_pos (show nI 1 = (1 : Int32) by decide)]; exact e 1 (by omega)
      · rw [if_neg (show ¬ nI 2 = (0 : Int32) by decide), if_neg (show ¬ nI 2 = (1 : Int32) by decide), if_pos (show nI 2 = (2 : Int32) by decide)]; exact e 2 (by omega)
    · rw [if_neg c2, if_neg (fun (z : w = 0) => c2 (by rw [z]; decide)), if_neg (fun (z : w = 1) => c2 (by rw [z]; decide)), if_neg (fun (z : w = 2) => c2 (by rw [z]; decide))]
  · rw [if_neg c1, if_neg c1]
/-- a number of the mill, the pad's length, the history's -/
def cCt (M : kN) (n z : Nat) (w : Int32) : Int32 := if w = 18 then nI n else (if w = 19 then nI z else cOfAll M w)
theorem aCount_m {M R : kN} {n z : Nat} (h : kSim M (R 0)) (h1 : R 7 1 = nI n) (h0 : R 7 0 = nI z) (w : Int32) : cCt M n z w = mCount R w := by
  unfold cCt mCount cOfAll
  obtain ⟨t1, t2, t3, t4⟩ := h.2
  have e := fun k (hk : k < 7) => h.1.se (k := k) hk
  by_cases c2 : pIn w 0 19
  · rw [if_pos c2]
    obtain ⟨k, rfl, k0, k9⟩ := pIn_nat c2 (show (0 : Int32) = nI 0 from rfl) (show (19 : Int32) = nI 19 from rfl) (by omega) (by omega)
    rw [nI_clamp (by omega)]
    rcases (show k = 0 ∨ k = 1 ∨ k = 2 ∨ k = 3 ∨ k = 4 ∨ k = 5 ∨ k = 6 ∨ k = 7 ∨ k = 8 ∨ k = 9 ∨ k = 10 ∨ k = 11 ∨ k = 12 ∨ k = 13 ∨ k = 14 ∨ k = 15 ∨ k = 16 ∨ k = 17 ∨ k = 18 ∨ k = 19 by omega) with rfl | rfl | rfl | rfl | rfl | rfl | rfl | rfl | rfl | rfl | rfl | rfl | rfl | rfl | rfl | rfl | rfl | rfl | rfl | rfl
    · rw [if_neg (show ¬ nI 0 = (18 : Int32) by decide), if_neg (show ¬ nI 0 = (19 : Int32) by decide), if_neg (show ¬ pIn (nI 0) 11 17 by decide), if_pos (show nI 0 = (0 : Int32) by decide)]; rw [if_neg (show ¬ (5 : Int32) ≤ nI 0 by decide), if_neg (show ¬ (3 : Int32) ≤ nI 0 by decide)]; exact h.1.now
    · rw [if_neg (show ¬ nI 1 = (18 : Int32) by decide), if_neg (show ¬ nI 1 = (19 : Int32) by decide), if_neg (show ¬ pIn (nI 1) 11 17 by decide), if_neg (show ¬ nI 1 = (0 : Int32) by decide), if_pos (show nI 1 = (1 : Int32) by decide)]; rw [if_neg (show ¬ (5 : Int32) ≤ nI 1 by decide), if_neg (show ¬ (3 : Int32) ≤ nI 1 by decide)]; exact h.1.cF
    · rw [if_neg (show ¬ nI 2 = (18 : Int32) by decide), if_neg (show ¬ nI 2 = (19 : Int32) by decide), if_neg (show ¬ pIn (nI 2) 11 17 by decide), if_neg (show ¬ nI 2 = (0 : Int32) by decide), if_neg (show ¬ nI 2 = (1 : Int32) by decide), if_pos (show nI 2 = (2 : Int32) by decide)]; rw [if_neg (show ¬ (5 : Int32) ≤ nI 2 by decide), if_neg (show ¬ (3 : Int32) ≤ nI 2 by decide)]; exact h.1.cS
    · rw [if_neg (show ¬ nI 3 = (18 : Int32) by decide), if_neg (show ¬ nI 3 = (19 : Int32) by decide), if_neg (show ¬ pIn (nI 3) 11 17 by decide), if_neg (show ¬ nI 3 = (0 : Int32) by decide), if_neg (show ¬ nI 3 = (1 : Int32) by decide), if_neg (show ¬ nI 3 = (2 : Int32) by decide), if_pos (show nI 3 = (3 : Int32) by decide)]; rw [if_neg (show ¬ (5 : Int32) ≤ nI 3 by decide), if_pos (show (3 : Int32) ≤ nI 3 by decide), if_pos (show nI 3 = (3 : Int32) by decide)]; exact t1
    · rw [if_neg (show ¬ nI 4 = (18 : Int32) by decide), if_neg (show ¬ nI 4 = (19 : Int32) by decide), if_neg (show ¬ pIn (nI 4) 11 17 by decide), if_neg (show ¬ nI 4 = (0 : Int32) by decide), if_neg (show ¬ nI 4 = (1 : Int32) by decide), if_neg (show ¬ nI 4 = (2 : Int32) by decide), if_neg (show ¬ nI 4 = (3 : Int32) by decide), if_pos (show nI 4 = (4 : Int32) by decide)]; rw [if_neg (show ¬ (5 : Int32) ≤ nI 4 by decide), if_pos (show (3 : Int32) ≤ nI 4 by decide), if_neg (show ¬ nI 4 = (3 : Int32) by decide)]; exact h.1.cY
    · rw [if_neg (show ¬ nI 5 = (18 : Int32) by decide), if_neg (show ¬ nI 5 = (19 : Int32) by decide), if_neg (show ¬ pIn (nI 5) 11 17 by decide), if_neg (show ¬ nI 5 = (0 : Int32) by decide), if_neg (show ¬ nI 5 = (1 : Int32) by decide), if_neg (show ¬ nI 5 = (2 : Int32) by decide), if_neg (show ¬ nI 5 = (3 : Int32) by decide), if_neg (show ¬ nI 5 = (4 : Int32) by decide), if_pos (show nI 5 = (5 : Int32) by decide)]; rw [if_pos (show (5 : Int32) ≤ nI 5 by decide), if_neg (show ¬ (11 : Int32) ≤ nI 5 by decide)]; exact t2
    · rw [if_neg (show ¬ nI 6 = (18 : Int32) by decide), if_neg (show ¬ nI 6 = (19 : Int32) by decide), if_neg (show ¬ pIn (nI 6) 11 17 by decide), if_neg (show ¬ nI 6 = (0 : Int32) by decide), if_neg (show ¬ nI 6 = (1 : Int32) by decide), if_neg (show ¬ nI 6 = (2 : Int32) by decide), if_neg (show ¬ nI 6 = (3 : Int32) by decide), if_neg (show ¬ nI 6 = (4 : Int32) by decide), if_neg (show ¬ nI 6 = (5 : Int32) by decide), if_pos (show nI 6 = (6 : Int32) by decide)]; rw [if_pos (show (5 : Int32) ≤ nI 6 by decide), if_neg (show ¬ (11 : Int32) ≤ nI 6 by decide)]; exact h.1.sug
    · rw [if_neg (show ¬ nI 7 = (18 : Int32) by decide), if_neg (show ¬ nI 7 = (19 : Int32) by decide), if_neg (show ¬ pIn (nI 7) 11 17 by decide), if_neg (show ¬ nI 7 = (0 : Int32) by decide), if_neg (show ¬ nI 7 = (1 : Int32) by decide), if_neg (show ¬ nI 7 = (2 : Int32) by decide), if_neg (show ¬ nI 7 = (3 : Int32) by decide), if_neg (show ¬ nI 7 = (4 : Int32) by decide), if_neg (show ¬ nI 7 = (5 : Int32) by decide), if_neg (show ¬ nI 7 = (6 : Int32) by decide), if_pos (show nI 7 = (7 : Int32) by decide)]; rw [if_pos (show (5 : Int32) ≤ nI 7 by decide), if_neg (show ¬ (11 : Int32) ≤ nI 7 by decide)]; exact t3
    · rw [if_neg (show ¬ nI 8 = (18 : Int32) by decide), if_neg (show ¬ nI 8 = (19 : Int32) by decide), if_neg (show ¬ pIn (nI 8) 11 17 by decide), if_neg (show ¬ nI 8 = (0 : Int32) by decide), if_neg (show ¬ nI 8 = (1 : Int32) by decide), if_neg (show ¬ nI 8 = (2 : Int32) by decide), if_neg (show ¬ nI 8 = (3 : Int32) by decide), if_neg (show ¬ nI 8 = (4 : Int32) by decide), if_neg (show ¬ nI 8 = (5 : Int32) by decide), if_neg (show ¬ nI 8 = (6 : Int32) by decide), if_neg (show ¬ nI 8 = (7 : Int32) by decide), if_pos (show nI 8 = (8 : Int32) by decide)]; rw [if_pos (show (5 : Int32) ≤ nI 8 by decide), if_neg (show ¬ (11 : Int32) ≤ nI 8 by decide)]; exact t4
    · rw [if_neg (show ¬ nI 9 = (18 : Int32) by decide), if_neg (show ¬ nI 9 = (19 : Int32) by decide), if_neg (show ¬ pIn (nI 9) 11 17 by decide), if_neg (show ¬ nI 9 = (0 : Int32) by decide), if_neg (show ¬ nI 9 = (1 : Int32) by decide), if_neg (show ¬ nI 9 = (2 : Int32) by decide), if_neg (show ¬ nI 9 = (3 : Int32) by decide), if_neg (show ¬ nI 9 = (4 : Int32) by decide), if_neg (show ¬ nI 9 = (5 : Int32) by decide), if_neg (show ¬ nI 9 = (6 : Int32) by decide), if_neg (show ¬ nI 9 = (7 : Int32) by decide), if_neg (show ¬ nI 9 = (8 : Int32) by decide), if_pos (show nI 9 = (9 : Int32) by decide)]; rw [if_pos (show (5 : Int32) ≤ nI 9 by decide), if_neg (show ¬ (11 : Int32) ≤ nI 9 by decide)]; exact h.1.lo
    · rw [if_neg (show ¬ nI 10 = (18 : Int32) by decide), if_neg (show ¬ nI 10 = (19 : Int32) by decide), if_neg (show ¬ pIn (nI 10) 11 17 by decide), if_neg (show ¬ nI 10 = (0 : Int32) by decide), if_neg (show ¬ nI 10 = (1 : Int32) by decide), if_neg (show ¬ nI 10 = (2 : Int32) by decide), if_neg (show ¬ nI 10 = (3 : Int32) by decide), if_neg (show ¬ nI 10 = (4 : Int32) by decide), if_neg (show ¬ nI 10 = (5 : Int32) by decide), if_neg (show ¬ nI 10 = (6 : Int32) by decide), if_neg (show ¬ nI 10 = (7 : Int32) by decide), if_neg (show ¬ nI 10 = (8 : Int32) by decide), if_neg (show ¬ nI 10 = (9 : Int32) by decide), if_pos (show nI 10 = (10 : Int32) by decide)]; rw [if_pos (show (5 : Int32) ≤ nI 10 by decide), if_neg (show ¬ (11 : Int32) ≤ nI 10 by decide)]; exact h.1.idl
    · rw [if_neg (show ¬ nI 11 = (18 : Int32) by decide), if_neg (show ¬ nI 11 = (19 : Int32) by decide), if_pos (show pIn (nI 11) 11 17 by decide)]; rw [if_pos (show (5 : Int32) ≤ nI 11 by decide), if_pos (show (11 : Int32) ≤ nI 11 by decide), if_neg (show ¬ (18 : Int32) ≤ nI 11 by decide)]; exact e 0 (by omega)
    · rw [if_neg (show ¬ nI 12 = (18 : Int32) by decide), if_neg (show ¬ nI 12 = (19 : Int32) by decide), if_pos (show pIn (nI 12) 11 17 by decide)]; rw [if_pos (show (5 : Int32) ≤ nI 12 by decide), if_pos (show (11 : Int32) ≤ nI 12 by decide), if_neg (show ¬ (18 : Int32) ≤ nI 12 by decide)]; exact e 1 (by omega)
    · rw [if_neg (show ¬ nI 13 = (18 : Int32) by decide), if_neg (show ¬ nI 13 = (19 : Int32) by decide), if_pos (show pIn (nI 13) 11 17 by decide)]; rw [if_pos (show (5 : Int32) ≤ nI 13 by decide), if_pos (show (11 : Int32) ≤ nI 13 by decide), if_neg (show ¬ (18 : Int32) ≤ nI 13 by decide)]; exact e 2 (by omega)
    · rw [if_neg (show ¬ nI 14 = (18 : Int32) by decide), if_neg (show ¬ nI 14 = (19 : Int32) by decide), if_pos (show pIn (nI 14) 11 17 by decide)]; rw [if_pos (show (5 : Int32) ≤ nI 14 by decide), if_pos (show (11 : Int32) ≤ nI 14 by decide), if_neg (show ¬ (18 : Int32) ≤ nI 14 by decide)]; exact e 3 (by omega)
    · rw [if_neg (show ¬ nI 15 = (18 : Int32) by decide), if_neg (show ¬ nI 15 = (19 : Int32) by decide), if_pos (show pIn (nI 15) 11 17 by decide)]; rw [if_pos (show (5 : Int32) ≤ nI 15 by decide), if_pos (show (11 : Int32) ≤ nI 15 by decide), if_neg (show ¬ (18 : Int32) ≤ nI 15 by decide)]; exact e 4 (by omega)
    · rw [if_neg (show ¬ nI 16 = (18 : Int32) by decide), if_neg (show ¬ nI 16 = (19 : Int32) by decide), if_pos (show pIn (nI 16) 11 17 by decide)]; rw [if_pos (show (5 : Int32) ≤ nI 16 by decide), if_pos (show (11 : Int32) ≤ nI 16 by decide), if_neg (show ¬ (18 : Int32) ≤ nI 16 by decide)]; exact e 5 (by omega)
    · rw [if_neg (show ¬ nI 17 = (18 : Int32) by decide), if_neg (show ¬ nI 17 = (19 : Int32) by decide), if_pos (show pIn (nI 17) 11 17 by decide)]; rw [if_pos (show (5 : Int32) ≤ nI 17 by decide), if_pos (show (11 : Int32) ≤ nI 17 by decide), if_neg (show ¬ (18 : Int32) ≤ nI 17 by decide)]; exact e 6 (by omega)
    · rw [if_pos (show nI 18 = (18 : Int32) by decide)]; rw [if_pos (show (5 : Int32) ≤ nI 18 by decide), if_pos (show (11 : Int32) ≤ nI 18 by decide), if_pos (show (18 : Int32) ≤ nI 18 by decide), if_pos (show nI 18 = (18 : Int32) by decide)]; exact h1.symm
    · rw [if_neg (show ¬ nI 19 = (18 : Int32) by decide), if_pos (show nI 19 = (19 : Int32) by decide)]; rw [if_pos (show (5 : Int32) ≤ nI 19 by decide), if_pos (show (11 : Int32) ≤ nI 19 by decide), if_pos (show (18 : Int32) ≤ nI 19 by decide), if_neg (show ¬ nI 19 = (18 : Int32) by decide)]; exact h0.symm
  · rw [if_neg c2, if_neg (fun (z : w = 18) => c2 (by rw [z]; decide)), if_neg (fun (z : w = 19) => c2 (by rw [z]; decide)), if_neg (fun (y : pIn w 11 17) => c2 ⟨fun y1 => y.1 (Int32.lt_trans y1 (by decide)), fun y1 => y.2 (Int32.lt_trans (by decide) y1)⟩), if_neg (fun (z : w = 0) => c2 (by rw [z]; decide)), if_neg (fun (z : w = 1) => c2 (by rw [z]; decide)), if_neg (fun (z : w = 2) => c2 (by rw [z]; decide)), if_neg (fun (z : w = 3) => c2 (by rw [z]; decide)), if_neg (fun (z : w = 4) => c2 (by rw [z]; decide)), if_neg (fun (z : w = 5) => c2 (by rw [z]; decide)), if_neg (fun (z : w = 6) => c2 (by rw [z]; decide)), if_neg (fun (z : w = 7) => c2 (by rw [z]; decide)), if_neg (fun (z : w = 8) => c2 (by rw [z]; decide)), if_neg (fun (z : w = 9) => c2 (by rw [z]; decide)), if_neg (fun (z : w = 10) => c2 (by rw [z]; decide))]
theorem aSetTo_m {M : kN} {s : kS} (h : kSim M s) (q : Int32) : ∀ k, k ≤ mF s → cSetTo M q (M 19 0) k = mSetTo s q k
  | 0, _ => rfl
  | k + 1, hk => by
    unfold cSetTo mSetTo
    rw [aSetTo_m h q k (by omega), cHow_m h.1 (f := k) (by omega)]
    by_cases c : mHow s k = q
    · rw [if_pos c, if_pos c]
    · rw [if_neg c, if_neg c, Int64.or_zero]
def cFields (M : kN) (q : Int32) : Int64 := if pIn q 0 3 then cSetTo M q (M 19 0) (nF M) else -2
theorem aFields_m {M : kN} {s : kS} (h : kSim M s) (q : Int32) : cFields M q = mFields s q := by
  unfold cFields mFields
  rw [(kSim_n h).1, aSetTo_m h q (mF s) (Nat.le_refl _)]
