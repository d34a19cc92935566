/-! p26: the mill's numbers as integers, sums of rows -/
abbrev jN : Type := Nat → Nat → Int
def jV (M : kN) : jN := fun q k => (M q k).toInt
def jU (r : Nat → Int) (k : Nat) (x : Int) : Nat → Int := fun j => if j = k then x else r j
def jP (V : jN) (q k : Nat) (x : Int) : jN := fun i => if i = q then jU (V q) k x else V i
theorem jU_s {r : Nat → Int} {k : Nat} {x : Int} : jU r k x k = x := if_pos rfl
theorem jU_o {r : Nat → Int} {k j : Nat} {x : Int} (h : j ≠ k) : jU r k x j = r j := if_neg h
theorem jV_sM (M : kN) (q k : Nat) (v : Int32) : jV (sM M q k v) = jP (jV M) q k v.toInt := by
  funext i j
  show (sM M q k v i j).toInt = jP (jV M) q k v.toInt i j
  unfold sM jP
  by_cases h : i = q
  · rw [if_pos h, if_pos h]
    show (if j = k then v else M q j).toInt = if j = k then v.toInt else (M q j).toInt
    by_cases c : j = k
    · rw [if_pos c, if_pos c]
    · rw [if_neg c, if_neg c]
  · rw [if_neg h, if_neg h]; rfl
def jS (r : Nat → Int) : Nat → Int
  | 0 => 0
  | k + 1 => jS r k + r k
theorem jS_cong {r u : Nat → Int} : ∀ n, (∀ k, k < n → u k = r k) → jS u n = jS r n
  | 0, _ => rfl
  | n + 1, h => by
    show jS u n + u n = jS r n + r n
    rw [jS_cong n (fun k hk => h k (by omega)), h n (by omega)]
theorem jS_upd {r : Nat → Int} {g : Nat} {x : Int} : ∀ n, jS (jU r g x) n = if g < n then jS r n - r g + x else jS r n
  | 0 => by rw [if_neg (by omega)]; rfl
  | n + 1 => by
    show jS (jU r g x) n + jU r g x n = _
    have e : jS r (n + 1) = jS r n + r n := rfl
    rw [jS_upd n]
    by_cases h : n = g
    · subst h
      rw [if_neg (by omega), jU_s, if_pos (by omega), e]
      omega
    · rw [jU_o h]
      by_cases h2 : g < n
      · rw [if_pos h2, if_pos (by omega), e]
        omega
      · rw [if_neg h2, if_neg (by omega), e]
theorem jS_updi {r : Nat → Int} {g : Nat} {x : Int} {n : Nat} (h : g < n) : jS (jU r g x) n = jS r n - r g + x := by rw [jS_upd, if_pos h]
theorem jS_ge {r : Nat → Int} : ∀ n, (∀ k, k < n → 0 ≤ r k) → 0 ≤ jS r n ∧ ∀ k, k < n → r k ≤ jS r n
  | 0, _ => ⟨Int.le_refl _, fun f h => by omega⟩
  | n + 1, h => by
    obtain ⟨h1, h2⟩ := jS_ge n (fun k hk => h k (by omega))
    have h3 := h n (by omega)
    have e : jS r (n + 1) = jS r n + r n := rfl
    refine ⟨by omega, fun f hf => ?_⟩
    by_cases hfn : f = n
    · subst hfn; omega
    · have := h2 f (by omega); omega
theorem jS_le {r : Nat → Int} {c : Int} : ∀ n : Nat, (∀ k, k < n → r k ≤ c) → jS r n ≤ c * n
  | 0, _ => by show (0 : Int) ≤ c * ((0 : Nat) : Int); rw [Int.natCast_zero, Int.mul_zero]; exact Int.le_refl _
  | n + 1, h => by
    have h1 := jS_le n (fun k hk => h k (by omega))
    have h3 := h n (by omega)
    have e : jS r (n + 1) = jS r n + r n := rfl
    have e2 : c * ((n + 1 : Nat) : Int) = c * n + c := by rw [Int.natCast_add, Int.mul_add]; show c * n + c * ((1 : Nat) : Int) = _; rw [Int.natCast_one, Int.mul_one]
    omega
theorem jS_mono {r u : Nat → Int} : ∀ n : Nat, (∀ k, k < n → r k ≤ u k) → jS r n ≤ jS u n
  | 0, _ => Int.le_refl _
  | n + 1, h => by
    have h1 := jS_mono n (fun k hk => h k (by omega))
    have h3 := h n (by omega)
    show jS r n + r n ≤ jS u n + u n
    omega
theorem jS_0 {r : Nat → Int} : ∀ n, (∀ k, k < n → r k = 0) → jS r n = 0
  | 0, _ => rfl
  | n + 1, h => by
    show jS r n + r n = 0
    rw [jS_0 n (fun k hk => h k (by omega)), h n (by omega)]
    rfl
theorem jS_shift {r : Nat → Int} {e : Nat} (h : ∀ k, k < e → r k = 0) : ∀ m, jS (fun k => r (e + k)) m = jS r (e + m)
  | 0 => (jS_0 e h).symm
  | m + 1 => by
    show jS (fun k => r (e + k)) m + r (e + m) = jS r (e + m) + r (e + m)
    rw [jS_shift h m]
theorem jS_prefix {r : Nat → Int} {n : Nat} (h : ∀ k, k < n → 0 ≤ r k) : ∀ m, m ≤ n → 0 ≤ jS r m ∧ jS r m ≤ jS r n := by
  intro m hm
  have h0 := (jS_ge m (fun k hk => h k (by omega))).1
  have key : ∀ j, m + j ≤ n → jS r m ≤ jS r (m + j) := by
    intro j
    induction j with
    | zero => intro _; exact Int.le_refl _
    | succ j ih =>
      intro hj
      have h1 := ih (by omega)
      have h2 := h (m + j) (by omega)
      have e : jS r (m + (j + 1)) = jS r (m + j) + r (m + j) := rfl
      omega
  have := key (n - m) (by omega)
  rw [show m + (n - m) = n by omega] at this
  exact ⟨h0, this⟩
/-- a row, but what is another's is 0 -/
def jW (G : Nat → Nat) (g : Nat) (r : Nat → Int) : Nat → Int := fun k => if G k = g then r k else 0
theorem jW_U {G : Nat → Nat} {g : Nat} {r : Nat → Int} {k : Nat} {x : Int} : jW G g (jU r k x) = jU (jW G g r) k (if G k = g then x else 0) := by
  funext j
  unfold jW jU
  by_cases h : j = k
  · subst h; rw [if_pos rfl, if_pos rfl]
  · rw [if_neg h, if_neg h]
theorem jW_ge {G : Nat → Nat} {g : Nat} {r : Nat → Int} {n : Nat} (h : ∀ k, k < n → 0 ≤ r k) : ∀ k, k < n → 0 ≤ jW G g r k := fun k hk => by
  unfold jW
  split
  · exact h k hk
  · exact Int.le_refl _
theorem jW_cong {G G' : Nat → Nat} {g : Nat} {r r' : Nat → Int} {k : Nat} (h1 : G' k = G k) (h2 : r' k = r k) : jW G' g r' k = jW G g r k := by
  unfold jW
  rw [h1, h2]
/-! what holds of them -/
def jSet (r : Nat → Int) : Prop := (0 ≤ r 0 ∧ r 0 ≤ 20) ∧ (1 ≤ r 1 ∧ r 1 ≤ 30) ∧ (1 ≤ r 2 ∧ r 2 ≤ 200) ∧ (0 ≤ r 3 ∧ r 3 ≤ 400) ∧ (0 ≤ r 4 ∧ r 4 ≤ 100) ∧ (1 ≤ r 5 ∧ r 5 ≤ 20) ∧ (0 ≤ r 6 ∧ r 6 ≤ 999)
def jQ (r : Nat → Int) : Prop := ∀ g, g < 6 → 0 ≤ r g ∧ r g ≤ 9999
/-- of a field: tonnes, purity, day, on it, in the yard, crushed, lost -/
def jF1 (w t p b l i c o : Int) : Prop := (1 ≤ t ∧ t ≤ 300) ∧ (1 ≤ p ∧ p ≤ 100) ∧ (0 ≤ b ∧ b ≤ 999) ∧ (0 ≤ l ∧ 0 ≤ i ∧ 0 ≤ c ∧ 0 ≤ o) ∧ t = l + i + c + o ∧ (w < b → l = t) ∧ (0 < o → l = 0 ∧ b ≤ w)
def jF (V : jN) (w : Int) (n : Nat) : Prop := ∀ f, f < n → jF1 w (V 7 f) (V 8 f) (V 9 f) (V 10 f) (V 11 f) (V 12 f) (V 13 f)
def jL (V : jN) (d : Int) (z y : Nat) : Prop := (∀ k, k < z → V 17 k = 0) ∧ (∀ k, z ≤ k → k < y → 1 ≤ V 17 k ∧ V 17 k ≤ 30) ∧ (∀ k, k < y → V 18 k < d) ∧ ∀ k, k + 1 < y → V 18 k ≤ V 18 (k + 1)
def jT (V : jN) (E : Nat → Nat) (n y : Nat) : Prop := jS (V 17) y = V 19 7 ∧ V 19 7 ≤ 400 ∧ (∀ f, f < n → jS (jW E f (V 17)) y = V 11 f) ∧ jS (V 11) n = V 19 7
def jG (V : jN) (G : Nat → Nat) (n : Nat) : Prop := (∀ g, g < 6 → (0 ≤ V 3 g ∧ 0 ≤ V 4 g ∧ 0 ≤ V 5 g ∧ V 5 g ≤ 999 * V 3 g) ∧ V 2 g = V 3 g + jS (jW G g (V 11)) n) ∧ jS (V 12) n = jS (V 3) 6 ∧ jS (V 13) n = jS (V 4) 6 ∧ 0 ≤ V 19 1 ∧ V 19 1 ≤ jS (V 3) 6
def jI (w d : Int) (z : Nat) (V : jN) (G E : Nat → Nat) (n y : Nat) : Prop := jSet (V 0) ∧ jQ (V 1) ∧ jF V w n ∧ jL V d z y ∧ jT V E n y ∧ jG V G n ∧ (0 ≤ w ∧ n ≤ 30 ∧ z ≤ y ∧ y ≤ 400) ∧ (∀ f, f < n → G f < 6) ∧ ∀ k, k < y → E k < n
section JI
variable {w d : Int} {z : Nat} {V : jN} {G E : Nat → Nat} {n y : Nat}
theorem jI.S (h : jI w d z V G E n y) : jSet (V 0) := h.1
theorem jI.Q (h : jI w d z V G E n y) : jQ (V 1) := h.2.1
theorem jI.F (h : jI w d z V G E n y) {f : Nat} (hf : f < n) : jF1 w (V 7 f) (V 8 f) (V 9 f) (V 10 f) (V 11 f) (V 12 f) (V 13 f) := h.2.2.1 f hf
theorem jI.L (h : jI w d z V G E n y) : jL V d z y := h.2.2.2.1
theorem jI.T (h : jI w d z V G E n y) : jT V E n y := h.2.2.2.2.1
theorem jI.H (h : jI w d z V G E n y) : jG V G n := h.2.2.2.2.2.1
theorem jI.R (h : jI w d z V G E n y) : 0 ≤ w ∧ n ≤ 30 ∧ z ≤ y ∧ y ≤ 400 := h.2.2.2.2.2.2.1
theorem jI.g6 (h : jI w d z V G E n y) {f : Nat} (hf : f < n) : G f < 6 := h.2.2.2.2.2.2.2.1 f hf
theorem jI.en (h : jI w d z V G E n y) {k : Nat} (hk : k < y) : E k < n := h.2.2.2.2.2.2.2.2 k hk
theorem jI.ld (h : jI w d z V G E n y) : ∀ k, k < y → 0 ≤ V 17 k ∧ V 17 k ≤ 30 := fun k hk => by
  by_cases c : k < z
  · rw [h.L.1 k c]; omega
  · have := h.L.2.1 k (by omega) hk; omega
/-- the load's tonnes are among its field's in the yard -/
theorem jI.in1 (h : jI w d z V G E n y) {k : Nat} (hk : k < y) : V 17 k ≤ V 11 (E k) := by
  rw [← h.T.2.2.1 (E k) (h.en hk)]
  have h1 := (jS_ge (r := jW E (E k) (V 17)) y (jW_ge (fun j hj => (h.ld j hj).1))).2 k hk
  have e : jW E (E k) (V 17) k = V 17 k := if_pos rfl
  rw [e] at h1
  exact h1
theorem jI.cr (h : jI w d z V G E n y) : (0 ≤ jS (V 12) n ∧ jS (V 12) n ≤ 9000) ∧ (0 ≤ jS (V 13) n ∧ jS (V 13) n ≤ 9000) ∧ (0 ≤ jS (V 11) n ∧ jS (V 11) n ≤ 9000) := by
  have hn := h.R.2.1
  have b : ∀ q : Nat, (∀ f, f < n → 0 ≤ V q f ∧ V q f ≤ 300) → 0 ≤ jS (V q) n ∧ jS (V q) n ≤ 9000 := fun q hq => by
    have h1 := (jS_ge (r := V q) n (fun k hk => (hq k hk).1)).1
    have h2 := jS_le (r := V q) (c := 300) n (fun k hk => (hq k hk).2)
    omega
  refine ⟨b 12 (fun f hf => ?_), b 13 (fun f hf => ?_), b 11 (fun f hf => ?_)⟩ <;> (have := h.F hf; unfold jF1 at this; omega)
theorem jI.g3 (h : jI w d z V G E n y) {g : Nat} (hg : g < 6) : (0 ≤ V 3 g ∧ V 3 g ≤ jS (V 3) 6) ∧ (0 ≤ V 4 g ∧ V 4 g ≤ jS (V 4) 6) ∧ (0 ≤ V 5 g ∧ V 5 g ≤ 999 * V 3 g) ∧ jS (V 3) 6 ≤ 9000 ∧ jS (V 4) 6 ≤ 9000 := by
  obtain ⟨c1, c2, -⟩ := h.cr
  have e1 := h.H.2.1
  have e2 := h.H.2.2.1
  have a := (h.H.1 g hg).1
  have b1 := (jS_ge (r := V 3) 6 (fun k hk => (h.H.1 k hk).1.1)).2 g hg
  have b2 := (jS_ge (r := V 4) 6 (fun k hk => (h.H.1 k hk).1.2.1)).2 g hg
  omega
theorem jI.g2 (h : jI w d z V G E n y) {g : Nat} (hg : g < 6) : 0 ≤ V 2 g ∧ V 2 g ≤ 18000 ∧ 0 ≤ jS (jW G g (V 11)) n ∧ jS (jW G g (V 11)) n ≤ 9000 := by
  have e := (h.H.1 g hg).2
  have a := h.g3 hg
  obtain ⟨-, -, c3⟩ := h.cr
  have b1 := (jS_ge (r := jW G g (V 11)) n (jW_ge (fun k hk => by have := h.F hk; unfold jF1 at this; omega))).1
  have b2 := jS_mono (r := jW G g (V 11)) (u := V 11) n (fun k hk => by
    unfold jW
    split
    · exact Int.le_refl _
    · have := h.F hk; unfold jF1 at this; omega)
  omega
/-- a day's end: the next day begins -/
theorem jI.next (h : jI w d z V G E n y) {V' : jN} (h19 : V' 19 1 = V 19 1) (h7 : V' 19 7 = V 19 7) (e : ∀ q, q ≠ 19 → V' q = V q) : jI (w + 1) d z V' G E n y := by
  obtain ⟨h1, h2, h3, h4, h5, h6, h8, h9, h10⟩ := h
  refine ⟨?_, ?_, fun f hf => ?_, ?_, ?_, ?_, ⟨by omega, h8.2⟩, h9, h10⟩
  · rw [e 0 (by omega)]; exact h1
  · rw [e 1 (by omega)]; exact h2
  · rw [e 7 (by omega), e 8 (by omega), e 9 (by omega), e 10 (by omega), e 11 (by omega), e 12 (by omega), e 13 (by omega)]
    have := h3 f hf
    unfold jF1 at this ⊢
    omega
  · unfold jL; rw [e 17 (by omega), e 18 (by omega)]; exact h4
  · unfold jT; rw [e 17 (by omega), e 11 (by omega), h7]; exact h5
  · unfold jG; rw [e 2 (by omega), e 3 (by omega), e 4 (by omega), e 5 (by omega), e 11 (by omega), e 12 (by omega), e 13 (by omega), h19]; exact h6
/-- what is alive decides -/
theorem jI.ext (h : jI w d z V G E n y) {V' : jN} {G' E' : Nat → Nat} (e0 : ∀ k, k < 7 → V' 0 k = V 0 k) (eg : ∀ q, 1 ≤ q → q ≤ 5 → ∀ k, k < 6 → V' q k = V q k) (ef : ∀ q, 7 ≤ q → q ≤ 13 → ∀ k, k < n → V' q k = V q k) (ey : ∀ q, 17 ≤ q → q ≤ 18 → ∀ k, k < y → V' q k = V q k) (h1 : V' 19 1 = V 19 1) (h7 : V' 19 7 = V 19 7) (hG : ∀ k, k < n → G' k = G k) (hE : ∀ k, k < y → E' k = E k) : jI w d z V' G' E' n y := by
  obtain ⟨i1, i2, i3, ⟨l1, l2, l3, l4⟩, ⟨t1, t2, t3, t4⟩, ⟨g1, g2, g3, g4, g5⟩, i8, i9, i10⟩ := h
  refine ⟨?_, fun g hg => ?_, fun f hf => ?_, ⟨fun k hk => ?_, fun k hk hk2 => ?_, fun k hk => ?_, fun k hk => ?_⟩, ⟨?_, ?_, fun f hf => ?_, ?_⟩, ⟨fun g hg => ⟨?_, ?_⟩, ?_, ?_, ?_, ?_⟩, i8, fun f hf => ?_, fun k hk => ?_⟩
  · unfold jSet
    rw [e0 0 (by omega), e0 1 (by omega), e0 2 (by omega), e0 3 (by omega), e0 4 (by omega), e0 5 (by omega), e0 6 (by omega)]
    exact i1
  · rw [eg 1 (by omega) (by omega) g hg]; exact i2 g hg
  · rw [ef 7 (by omega) (by omega) f hf, ef 8 (by omega) (by omega) f hf, ef 9 (by omega) (by omega) f hf, ef 10 (by omega) (by omega) f hf, ef 11 (by omega) (by omega) f hf, ef 12 (by omega) (by omega) f hf, ef 13 (by omega) (by omega) f hf]
    exact i3 f hf
  · rw [ey 17 (by omega) (by omega) k (by omega)]; exact l1 k hk
  · rw [ey 17 (by omega) (by omega) k (by omega)]; exact l2 k hk hk2
  · rw [ey 18 (by omega) (by omega) k (by omega)]; exact l3 k hk
  · rw [ey 18 (by omega) (by omega) k (by omega), ey 18 (by omega) (by omega) (k + 1) (by omega)]; exact l4 k hk
  · rw [h7, ← t1]; exact jS_cong y (fun k hk => ey 17 (by omega) (by omega) k hk)
  · rw [h7]; exact t2
  · rw [ef 11 (by omega) (by omega) f hf, ← t3 f hf]
    exact jS_cong y (fun k hk => jW_cong (hE k hk) (ey 17 (by omega) (by omega) k hk))
  · rw [h7, ← t4]; exact jS_cong n (fun k hk => ef 11 (by omega) (by omega) k hk)
  · rw [eg 3 (by omega) (by omega) g hg, eg 4 (by omega) (by omega) g hg, eg 5 (by omega) (by omega) g hg]; exact (g1 g hg).1
  · rw [eg 2 (by omega) (by omega) g hg, eg 3 (by omega) (by omega) g hg, (g1 g hg).2, jS_cong n (fun k hk => jW_cong (hG k hk) (ef 11 (by omega) (by omega) k hk))]
  · rw [jS_cong n (fun k hk => ef 12 (by omega) (by omega) k hk), jS_cong 6 (fun k hk => eg 3 (by omega) (by omega) k hk)]; exact g2
  · rw [jS_cong n (fun k hk => ef 13 (by omega) (by omega) k hk), jS_cong 6 (fun k hk => eg 4 (by omega) (by omega) k hk)]; exact g3
  · rw [h1]; exact g4
  · rw [h1, jS_cong 6 (fun k hk => eg 3 (by omega) (by omega) k hk)]; exact g5
  · rw [hG f hf]; exact i9 f hf
  · rw [hE k hk]; exact i10 k hk
end JI
