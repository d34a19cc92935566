/-! p26: a field's cane is lost; a load is brought; a part is crushed; the emptied loads go -/
section ST
variable {w d : Int} {z : Nat} {V : jN} {G E : Nat → Nat} {n y : Nat}
def jLoseV (V : jN) (G : Nat → Nat) (f : Nat) : jN := jP (jP (jP V 13 f (V 13 f + V 10 f)) 10 f 0) 4 (G f) (V 4 (G f) + V 10 f)
theorem jI.lose (h : jI w d z V G E n y) {f : Nat} (hf : f < n) (hb : V 9 f ≤ w) : jI w d z (jLoseV V G f) G E n y := by
  have hg := h.g6 hf
  have F1 := h.F hf
  refine ⟨h.S, h.Q, fun k hk => ?_, h.L, h.T, ⟨fun g hg2 => ?_, h.H.2.1, ?_, h.H.2.2.2.1, h.H.2.2.2.2⟩, h.R, h.2.2.2.2.2.2.2.1, h.2.2.2.2.2.2.2.2⟩
  · show jF1 w (V 7 k) (V 8 k) (V 9 k) (jU (V 10) f 0 k) (V 11 k) (V 12 k) (jU (V 13) f (V 13 f + V 10 f) k)
    by_cases c : k = f
    · rw [c, jU_s, jU_s]
      unfold jF1 at F1 ⊢
      omega
    · rw [jU_o c, jU_o c]; exact h.F hk
  · show (0 ≤ V 3 g ∧ 0 ≤ jU (V 4) (G f) (V 4 (G f) + V 10 f) g ∧ 0 ≤ V 5 g ∧ V 5 g ≤ 999 * V 3 g) ∧ V 2 g = V 3 g + jS (jW G g (V 11)) n
    have a := h.H.1 g hg2
    unfold jF1 at F1
    by_cases c : g = G f
    · rw [c] at a ⊢
      rw [jU_s]
      exact ⟨⟨a.1.1, by omega, a.1.2.2⟩, a.2⟩
    · rw [jU_o c]; exact a
  · show jS (jU (V 13) f (V 13 f + V 10 f)) n = jS (jU (V 4) (G f) (V 4 (G f) + V 10 f)) 6
    rw [jS_updi hf, jS_updi hg]
    have := h.H.2.2.1
    omega
def jBringV (V : jN) (G : Nat → Nat) (y f : Nat) (t w a b c : Int) : jN := jP (jP (jP (jP (jP (jP (jP (jP (jP (jP V 1 (G f) (V 1 (G f) - t)) 2 (G f) (V 2 (G f) + t)) 10 f (V 10 f - t)) 11 f (V 11 f + t)) 16 y a) 17 y t) 18 y w) 19 6 b) 19 7 (V 19 7 + t)) 19 2 c
theorem jI.bring (h : jI w (w + 1) 0 V G E n y) {f : Nat} (hf : f < n) {t a b c : Int} {E' : Nat → Nat} (hE : ∀ k, k < y → E' k = E k) (hEf : E' y = f) (hb : V 9 f ≤ w) (ht : 1 ≤ t ∧ t ≤ 30) (h1 : t ≤ V 10 f) (h2 : t ≤ V 1 (G f)) (h3 : V 19 7 + t ≤ 400) (hy : y < 400) : jI w (w + 1) 0 (jBringV V G y f t w a b c) G E' n (y + 1) := by
  have hg := h.g6 hf
  have F1 := h.F hf
  obtain ⟨l1, l2, l3, l4⟩ := h.L
  obtain ⟨t1, t2, t3, t4⟩ := h.T
  refine ⟨h.S, fun g hg2 => ?_, fun k hk => ?_, ⟨fun k hk => by omega, fun k _ hk => ?_, fun k hk => ?_, fun k hk => ?_⟩, ⟨?_, h3, fun k hk => ?_, ?_⟩, ⟨fun g hg2 => ⟨(h.H.1 g hg2).1, ?_⟩, h.H.2.1, h.H.2.2.1, h.H.2.2.2.1, h.H.2.2.2.2⟩, ⟨h.R.1, h.R.2.1, by omega, by omega⟩, h.2.2.2.2.2.2.2.1, fun k hk => ?_⟩
  · show 0 ≤ jU (V 1) (G f) (V 1 (G f) - t) g ∧ jU (V 1) (G f) (V 1 (G f) - t) g ≤ 9999
    have a := h.Q g hg2
    by_cases c : g = G f
    · rw [c] at a ⊢; rw [jU_s]; omega
    · rw [jU_o c]; exact a
  · show jF1 w (V 7 k) (V 8 k) (V 9 k) (jU (V 10) f (V 10 f - t) k) (jU (V 11) f (V 11 f + t) k) (V 12 k) (V 13 k)
    by_cases c : k = f
    · rw [c, jU_s, jU_s]
      unfold jF1 at F1 ⊢
      omega
    · rw [jU_o c, jU_o c]; exact h.F hk
  · show 1 ≤ jU (V 17) y t k ∧ jU (V 17) y t k ≤ 30
    by_cases c : k = y
    · rw [c, jU_s]; exact ht
    · rw [jU_o c]; exact l2 k (by omega) (by omega)
  · show jU (V 18) y w k < w + 1
    by_cases c : k = y
    · rw [c, jU_s]; omega
    · rw [jU_o c]; exact l3 k (by omega)
  · show jU (V 18) y w k ≤ jU (V 18) y w (k + 1)
    rw [jU_o (j := k) (by omega)]
    by_cases c : k + 1 = y
    · rw [c, jU_s]
      have := l3 k (by omega)
      omega
    · rw [jU_o c]; exact l4 k (by omega)
  · show jS (jU (V 17) y t) y + jU (V 17) y t y = V 19 7 + t
    rw [jS_cong (r := V 17) y (fun k hk => jU_o (by omega)), jU_s, t1]
  · show jS (jW E' k (jU (V 17) y t)) y + (if E' y = k then jU (V 17) y t y else 0) = jU (V 11) f (V 11 f + t) k
    rw [jS_cong (r := jW E k (V 17)) y (fun j hj => jW_cong (hE j hj) (jU_o (by omega))), jU_s, hEf, t3 k hk]
    by_cases c : f = k
    · rw [if_pos c, ← c, jU_s]
    · rw [if_neg c, jU_o (fun q => c q.symm)]; omega
  · show jS (jU (V 11) f (V 11 f + t)) n = V 19 7 + t
    rw [jS_updi hf, t4]; omega
  · show jU (V 2) (G f) (V 2 (G f) + t) g = V 3 g + jS (jW G g (jU (V 11) f (V 11 f + t))) n
    rw [jW_U, jS_updi hf]
    have a := (h.H.1 g hg2).2
    by_cases c : g = G f
    · have e : jW G g (V 11) f = V 11 f := if_pos c.symm
      rw [e, if_pos c.symm, c, jU_s]
      rw [c] at a
      omega
    · have e : jW G g (V 11) f = 0 := if_neg (fun q => c q.symm)
      rw [e, if_neg (fun q => c q.symm), jU_o c]
      omega
  · by_cases c : k = y
    · rw [c, hEf]; exact hf
    · rw [hE k (by omega)]; exact h.en (by omega)
def jPartV (V : jN) (G : Nat → Nat) (k f : Nat) (p s x : Int) : jN := jP (jP (jP (jP (jP (jP (jP V 19 1 (V 19 1 + s)) 5 (G f) (V 5 (G f) + x)) 3 (G f) (V 3 (G f) + p)) 11 f (V 11 f - p)) 12 f (V 12 f + p)) 17 k (V 17 k - p)) 19 7 (V 19 7 - p)
theorem jI.part {k : Nat} (h : jI w d k V G E n y) (hk : k < y) {p s x : Int} (hp : 0 ≤ p ∧ p ≤ V 17 k) (hs : 0 ≤ s ∧ s ≤ p) (hx : 0 ≤ x ∧ x ≤ 999 * p) : jI w d (if V 17 k - p = 0 then k + 1 else k) (jPartV V G k (E k) p s x) G E n y := by
  have hf := h.en hk
  have hg := h.g6 hf
  have F1 := h.F hf
  have hin := h.in1 hk
  have hld := h.ld k hk
  obtain ⟨l1, l2, l3, l4⟩ := h.L
  obtain ⟨t1, t2, t3, t4⟩ := h.T
  generalize eE : E k = f at hf hg F1 hin ⊢
  refine ⟨h.S, h.Q, fun j hj => ?_, ⟨fun j hj => ?_, fun j hj hj2 => ?_, l3, l4⟩, ⟨?_, ?_, fun j hj => ?_, ?_⟩, ⟨fun g hg2 => ⟨?_, ?_⟩, ?_, h.H.2.2.1, ?_, ?_⟩, ⟨h.R.1, h.R.2.1, by split <;> omega, h.R.2.2.2⟩, h.2.2.2.2.2.2.2.1, h.2.2.2.2.2.2.2.2⟩
  · show jF1 w (V 7 j) (V 8 j) (V 9 j) (V 10 j) (jU (V 11) f (V 11 f - p) j) (jU (V 12) f (V 12 f + p) j) (V 13 j)
    by_cases c : j = f
    · rw [c, jU_s, jU_s]
      unfold jF1 at F1 ⊢
      omega
    · rw [jU_o c, jU_o c]; exact h.F hj
  · show jU (V 17) k (V 17 k - p) j = 0
    by_cases c0 : V 17 k - p = 0
    · rw [if_pos c0] at hj
      by_cases c : j = k
      · rw [c, jU_s]; exact c0
      · rw [jU_o c]; exact l1 j (by omega)
    · rw [if_neg c0] at hj
      rw [jU_o (by omega)]; exact l1 j hj
  · show 1 ≤ jU (V 17) k (V 17 k - p) j ∧ jU (V 17) k (V 17 k - p) j ≤ 30
    by_cases c0 : V 17 k - p = 0
    · rw [if_pos c0] at hj
      rw [jU_o (by omega)]; exact l2 j (by omega) hj2
    · rw [if_neg c0] at hj
      by_cases c : j = k
      · rw [c, jU_s]; omega
      · rw [jU_o c]; exact l2 j hj hj2
  · show jS (jU (V 17) k (V 17 k - p)) y = V 19 7 - p
    rw [jS_updi hk, t1]; omega
  · show V 19 7 - p ≤ 400
    omega
  · show jS (jW E j (jU (V 17) k (V 17 k - p))) y = jU (V 11) f (V 11 f - p) j
    rw [jW_U, jS_updi hk, t3 j hj, eE]
    by_cases c : f = j
    · have e : jW E j (V 17) k = V 17 k := if_pos (eE.trans c)
      rw [e, if_pos c, ← c, jU_s]; omega
    · have e : jW E j (V 17) k = 0 := if_neg (fun q => c (eE.symm.trans q))
      rw [e, if_neg c, jU_o (fun q => c q.symm)]; omega
  · show jS (jU (V 11) f (V 11 f - p)) n = V 19 7 - p
    rw [jS_updi hf, t4]; omega
  · show 0 ≤ jU (V 3) (G f) (V 3 (G f) + p) g ∧ 0 ≤ V 4 g ∧ 0 ≤ jU (V 5) (G f) (V 5 (G f) + x) g ∧ jU (V 5) (G f) (V 5 (G f) + x) g ≤ 999 * jU (V 3) (G f) (V 3 (G f) + p) g
    have a := (h.H.1 g hg2).1
    by_cases c : g = G f
    · rw [c] at a ⊢; rw [jU_s, jU_s]; omega
    · rw [jU_o c, jU_o c]; exact a
  · show V 2 g = jU (V 3) (G f) (V 3 (G f) + p) g + jS (jW G g (jU (V 11) f (V 11 f - p))) n
    rw [jW_U, jS_updi hf]
    have a := (h.H.1 g hg2).2
    by_cases c : g = G f
    · have e : jW G g (V 11) f = V 11 f := if_pos c.symm
      rw [e, if_pos c.symm, c, jU_s]
      rw [c] at a
      omega
    · have e : jW G g (V 11) f = 0 := if_neg (fun q => c q.symm)
      rw [e, if_neg (fun q => c q.symm), jU_o c]
      omega
  · show jS (jU (V 12) f (V 12 f + p)) n = jS (jU (V 3) (G f) (V 3 (G f) + p)) 6
    rw [jS_updi hf, jS_updi hg]
    have := h.H.2.1
    omega
  · show 0 ≤ V 19 1 + s
    have := h.H.2.2.2.1
    omega
  · show V 19 1 + s ≤ jS (jU (V 3) (G f) (V 3 (G f) + p)) 6
    rw [jS_updi hg]
    have := h.H.2.2.2.2
    omega
theorem jI.drop (h : jI w d z V G E n y) {V' : jN} {E' : Nat → Nat} (e : ∀ q, q ≠ 16 → q ≠ 17 → q ≠ 18 → q ≠ 19 → V' q = V q) (e17 : ∀ k, k < y - z → V' 17 k = V 17 (z + k)) (e18 : ∀ k, k < y - z → V' 18 k = V 18 (z + k)) (e1 : V' 19 1 = V 19 1) (e7 : V' 19 7 = V 19 7) (eE : ∀ k, k < y - z → E' k = E (z + k)) : jI w d 0 V' G E' n (y - z) := by
  obtain ⟨l1, l2, l3, l4⟩ := h.L
  obtain ⟨t1, t2, t3, t4⟩ := h.T
  have hR := h.R
  refine ⟨?_, ?_, ?_, ⟨fun k hk => by omega, fun k _ hk => ?_, fun k hk => ?_, fun k hk => ?_⟩, ⟨?_, ?_, fun f hf => ?_, ?_⟩, ?_, ⟨hR.1, hR.2.1, by omega, by omega⟩, h.2.2.2.2.2.2.2.1, fun k hk => ?_⟩
  · rw [e 0 (by omega) (by omega) (by omega) (by omega)]; exact h.S
  · rw [e 1 (by omega) (by omega) (by omega) (by omega)]; exact h.Q
  · intro f hf
    rw [e 7 (by omega) (by omega) (by omega) (by omega), e 8 (by omega) (by omega) (by omega) (by omega), e 9 (by omega) (by omega) (by omega) (by omega), e 10 (by omega) (by omega) (by omega) (by omega), e 11 (by omega) (by omega) (by omega) (by omega), e 12 (by omega) (by omega) (by omega) (by omega), e 13 (by omega) (by omega) (by omega) (by omega)]
    exact h.F hf
  · rw [e17 k hk]; exact l2 (z + k) (by omega) (by omega)
  · rw [e18 k hk]; exact l3 (z + k) (by omega)
  · rw [e18 k (by omega), e18 (k + 1) hk]; exact l4 (z + k) (by omega)
  · rw [jS_cong (r := fun k => V 17 (z + k)) (y - z) e17, jS_shift l1, e7, ← t1, show z + (y - z) = y by omega]
  · rw [e7]; exact t2
  · rw [e 11 (by omega) (by omega) (by omega) (by omega), ← t3 f hf, jS_cong (r := fun k => jW E f (V 17) (z + k)) (y - z) (fun k hk => by
      unfold jW
      rw [eE k hk, e17 k hk]), jS_shift (r := jW E f (V 17)) (fun k hk => by
      unfold jW
      rw [l1 k hk]
      split <;> rfl), show z + (y - z) = y by omega]
  · rw [e 11 (by omega) (by omega) (by omega) (by omega), e7]; exact t4
  · unfold jG
    rw [e 2 (by omega) (by omega) (by omega) (by omega), e 3 (by omega) (by omega) (by omega) (by omega), e 4 (by omega) (by omega) (by omega) (by omega), e 5 (by omega) (by omega) (by omega) (by omega), e 11 (by omega) (by omega) (by omega) (by omega), e 12 (by omega) (by omega) (by omega) (by omega), e 13 (by omega) (by omega) (by omega) (by omega), e1]
    exact h.H
  · rw [eE k hk]; exact h.en (by omega)
theorem jI.wk (h : jI w d z V G E n y) {d' : Int} (hd : d ≤ d') : jI w d' z V G E n y := by
  obtain ⟨h1, h2, h3, ⟨l1, l2, l3, l4⟩, h5⟩ := h
  exact ⟨h1, h2, h3, ⟨l1, l2, fun k hk => by have := l3 k hk; omega, l4⟩, h5⟩
/-- a field comes -/
def jComeV (V : jN) (n : Nat) (g t p b e : Int) : jN := jP (jP (jP (jP (jP (jP (jP (jP (jP V 6 n g) 7 n t) 8 n p) 9 n b) 10 n t) 11 n 0) 12 n 0) 13 n 0) 19 4 e
theorem jI.come (h : jI w d z V G E n y) {g t p b e : Int} {G' : Nat → Nat} (hG : ∀ k, k < n → G' k = G k) (hg : G' n < 6) (hn : n < 30) (ht : 1 ≤ t ∧ t ≤ 300) (hp : 1 ≤ p ∧ p ≤ 100) (hb : w ≤ b ∧ b ≤ 999) : jI w d z (jComeV V n g t p b e) G' E (n + 1) y := by
  obtain ⟨t1, t2, t3, t4⟩ := h.T
  obtain ⟨g1, g2, g3, g4, g5⟩ := h.H
  have hR := h.R
  have up : ∀ {r : Nat → Int}, jS (jU r n 0) (n + 1) = jS r n := fun {r} => by
    show jS (jU r n 0) n + jU r n 0 n = _
    rw [jS_cong (r := r) n (fun k hk => jU_o (by omega)), jU_s]
    omega
  refine ⟨h.S, h.Q, fun k hk => ?_, h.L, ⟨t1, t2, fun f hf => ?_, ?_⟩, ⟨fun a ha => ⟨(g1 a ha).1, ?_⟩, ?_, ?_, g4, g5⟩, ⟨hR.1, by omega, hR.2.2⟩, fun k hk => ?_, fun k hk => by have := h.en hk; omega⟩
  · show jF1 w (jU (V 7) n t k) (jU (V 8) n p k) (jU (V 9) n b k) (jU (V 10) n t k) (jU (V 11) n 0 k) (jU (V 12) n 0 k) (jU (V 13) n 0 k)
    by_cases c : k = n
    · rw [c, jU_s, jU_s, jU_s, jU_s, jU_s, jU_s, jU_s]
      unfold jF1
      omega
    · rw [jU_o c, jU_o c, jU_o c, jU_o c, jU_o c, jU_o c, jU_o c]; exact h.F (by omega)
  · show jS (jW E f (V 17)) y = jU (V 11) n 0 f
    by_cases c : f = n
    · rw [c, jU_s]
      exact jS_0 y (fun k hk => if_neg (by have := h.en hk; omega))
    · rw [jU_o c]; exact t3 f (by omega)
  · show jS (jU (V 11) n 0) (n + 1) = V 19 7
    rw [up]; exact t4
  · show V 2 a = V 3 a + jS (jW G' a (jU (V 11) n 0)) (n + 1)
    rw [jW_U]
    have e0 : (if G' n = a then (0 : Int) else 0) = 0 := by split <;> rfl
    rw [e0, up, (g1 a ha).2, jS_cong (r := jW G a (V 11)) n (fun k hk => jW_cong (hG k hk) rfl)]
  · show jS (jU (V 12) n 0) (n + 1) = jS (V 3) 6
    rw [up]; exact g2
  · show jS (jU (V 13) n 0) (n + 1) = jS (V 4) 6
    rw [up]; exact g3
  · by_cases c : k = n
    · rw [c]; exact hg
    · rw [hG k (by omega)]; exact h.g6 (by omega)
end ST
