/-! texts: a number, read by both -/
def pStp (P : Nat → Int32) (n : Nat) (x : Int32 × Nat) : Prop := ¬ (0 < x.1 ∧ x.1 < 1000 ∧ pAt P n x.2 48 57)
theorem pNuT_stp {P : Nat → Int32} {n : Nat} {x : Int32 × Nat} {i : Nat} (h : pStp P n (pNuT P n x i)) (j : Nat) : pNuT P n x (i + j) = pNuT P n x i := pNuT_stop h j
theorem i_mul10 {x : Int32} (h0 : 0 ≤ x.toInt) (h1 : x.toInt < 100000) : (10 * x).toInt = 10 * x.toInt := by
  rw [Int32.toInt_mul]
  have e : (10 : Int32).toInt = 10 := by decide
  rw [e]
  exact Int.bmod_eq_of_le (by omega) (by omega)
theorem i_dig {x : Int32} (h : pIn x 48 57) : 48 ≤ x.toInt ∧ x.toInt ≤ 57 := by
  have := pIn_int h
  have e1 : (48 : Int32).toInt = 48 := by decide
  have e2 : (57 : Int32).toInt = 57 := by decide
  omega
def pNi (P : Nat → Int32) (n a i : Nat) : Prop := ∃ d : Nat, cNuT P n a (i + 1) = ((pNuT P n (P a - 48, a + 1) i).1, d, (pNuT P n (P a - 48, a + 1) i).2) ∧ (d = i + 1 ∨ pStp P n (pNuT P n (P a - 48, a + 1) i)) ∧
  ((d = 1 ∧ 0 ≤ (pNuT P n (P a - 48, a + 1) i).1.toInt ∧ (pNuT P n (P a - 48, a + 1) i).1.toInt ≤ 9) ∨ (d = 2 ∧ 10 ≤ (pNuT P n (P a - 48, a + 1) i).1.toInt ∧ (pNuT P n (P a - 48, a + 1) i).1.toInt ≤ 99) ∨ (d = 3 ∧ 100 ≤ (pNuT P n (P a - 48, a + 1) i).1.toInt ∧ (pNuT P n (P a - 48, a + 1) i).1.toInt ≤ 999) ∨ (d = 4 ∧ 1000 ≤ (pNuT P n (P a - 48, a + 1) i).1.toInt ∧ (pNuT P n (P a - 48, a + 1) i).1.toInt ≤ 9999))
theorem i_n48 {x y : Int32} (h : pIn x 48 57) (h0 : 0 ≤ y.toInt) (h1 : y.toInt < 1000000) : (y + x - 48).toInt = y.toInt + (x.toInt - 48) := by
  obtain ⟨a, b⟩ := i_dig h
  have e1 : (48 : Int32).toInt = 48 := by decide
  have e2 : (y + x).toInt = y.toInt + x.toInt := i_add (by omega) (by omega)
  rw [i_sub (by rw [e2, e1]; omega) (by rw [e2, e1]; omega), e2, e1]
  omega
theorem pNi_0 {P : Nat → Int32} {n a : Nat} (h : pAt P n a 48 57) : pNi P n a 0 := by
  have e : cNuT P n a 1 = (P a - 48, 1, a + 1) := by
    show cNuS P n (0, 0, a) = _
    unfold cNuS
    rw [if_pos ⟨(show (0 : Nat) < 4 by decide), h, fun z => absurd (show (0 : Nat) < 0 from z.1) (by decide)⟩]
    have : (0 : Int32) * 10 + P a - 48 = P a - 48 := by
      rw [Int32.zero_mul, Int32.zero_add]
    rw [this]
  obtain ⟨a1, a2⟩ := i_dig h.2
  have e1 : (48 : Int32).toInt = 48 := by decide
  have e2 : (P a - 48).toInt = (P a).toInt - 48 := by rw [i_sub (by rw [e1]; omega) (by rw [e1]; omega), e1]
  refine ⟨1, e, Or.inl rfl, Or.inl ⟨rfl, ?_, ?_⟩⟩
  · show 0 ≤ (P a - 48).toInt
    omega
  · show (P a - 48).toInt ≤ 9
    omega
theorem pNi_S {P : Nat → Int32} {n a i : Nat} (h : pNi P n a i) : pNi P n a (i + 1) := by
  obtain ⟨d, h1, h2, h3⟩ := h
  have ec : cNuT P n a (i + 1 + 1) = cNuS P n (cNuT P n a (i + 1)) := rfl
  have er : pNuT P n (P a - 48, a + 1) (i + 1) = pNuS P n (pNuT P n (P a - 48, a + 1) i) := rfl
  unfold pNi
  rw [ec, er, h1]
  generalize pNuT P n (P a - 48, a + 1) i = x at h2 h3
  obtain ⟨v, b⟩ := x
  dsimp only at h3 ⊢
  have i0 : (0 : Int32).toInt = 0 := by decide
  have i1 : (1000 : Int32).toInt = 1000 := by decide
  by_cases c : 0 < v ∧ v < 1000 ∧ pAt P n b 48 57
  · have hr : pNuS P n (v, b) = (10 * v + P b - 48, b + 1) := if_pos c
    rw [hr]
    obtain ⟨c1, c2, c3⟩ := c
    rw [i_lt, i0] at c1
    rw [i_lt, i1] at c2
    have hd : d < 4 := by omega
    have hc : cNuS P n (v, d, b) = (10 * v + P b - 48, d + 1, b + 1) := by
      unfold cNuS
      rw [if_pos ⟨hd, c3, fun z => by have := z.2; rw [show v = 0 from this, i0] at c1; omega⟩]
      dsimp only
      rw [Int32.mul_comm]
    have e := i_n48 (x := P b) (y := 10 * v) c3.2 (by rw [i_mul10 (by omega) (by omega)]; omega) (by rw [i_mul10 (by omega) (by omega)]; omega)
    rw [i_mul10 (by omega) (by omega)] at e
    obtain ⟨a1, a2⟩ := i_dig c3.2
    refine ⟨d + 1, hc, ?_, ?_⟩
    · rcases h2 with h2 | h2
      · exact Or.inl (by omega)
      · exact absurd ⟨by rw [i_lt, i0]; exact c1, by rw [i_lt, i1]; exact c2, c3⟩ h2
    · dsimp only
      rw [e]
      omega
  · have hr : pNuS P n (v, b) = (v, b) := if_neg c
    rw [hr]
    have hc : cNuS P n (v, d, b) = (v, d, b) := by
      unfold cNuS
      rw [if_neg]
      rintro ⟨z1, z2, z3⟩
      dsimp only at z1 z2 z3
      have hv : v.toInt ≠ 0 := fun q => z3 ⟨by omega, Int32.toInt_inj.mp (by rw [q, i0])⟩
      exact c ⟨by rw [i_lt, i0]; omega, by rw [i_lt, i1]; omega, z2⟩
    exact ⟨d, hc, Or.inr c, h3⟩
theorem pNi_to {P : Nat → Int32} {n a : Nat} (h : pAt P n a 48 57) : ∀ i, pNi P n a i
  | 0 => pNi_0 h
  | i + 1 => pNi_S (pNi_to h i)
theorem pNuT_go {P : Nat → Int32} {n : Nat} {v : Int32} {b : Nat} : ∀ i, pStp P n (pNuT P n (v, b) i) ∨ (pNuT P n (v, b) i).2 = b + i
  | 0 => Or.inr rfl
  | i + 1 => by
    have er : pNuT P n (v, b) (i + 1) = pNuS P n (pNuT P n (v, b) i) := rfl
    rcases pNuT_go (P := P) (n := n) (v := v) (b := b) i with h | h
    · rw [pNuT_stp h 1]; exact Or.inl h
    · rw [er]
      by_cases c : 0 < (pNuT P n (v, b) i).1 ∧ (pNuT P n (v, b) i).1 < 1000 ∧ pAt P n (pNuT P n (v, b) i).2 48 57
      · have : pNuS P n (pNuT P n (v, b) i) = (10 * (pNuT P n (v, b) i).1 + P (pNuT P n (v, b) i).2 - 48, (pNuT P n (v, b) i).2 + 1) := if_pos c
        rw [this]
        exact Or.inr (by dsimp only; omega)
      · have : pNuS P n (pNuT P n (v, b) i) = pNuT P n (v, b) i := if_neg c
        rw [this]
        exact Or.inl c
/-- the class's number is the reference's -/
theorem cNuT_m {P : Nat → Int32} {n a : Nat} (h : pAt P n a 48 57) : (cNuT P n a 4).1 = (pNu P n a).1 ∧ (cNuT P n a 4).2.2 = (pNu P n a).2 := by
  obtain ⟨d, h1, h2, h3⟩ := pNi_to h 3
  have s3 : pStp P n (pNuT P n (P a - 48, a + 1) 3) := by
    rcases h2 with h2 | h2
    · intro z
      have i1 : (1000 : Int32).toInt = 1000 := by decide
      have := z.2.1
      rw [i_lt, i1] at this
      omega
    · exact h2
  have sn : pStp P n (pNuT P n (P a - 48, a + 1) n) := by
    rcases pNuT_go (P := P) (n := n) (v := P a - 48) (b := a + 1) n with q | q
    · exact q
    · intro z
      have := z.2.2.1
      omega
  have e : pNuT P n (P a - 48, a + 1) 3 = pNuT P n (P a - 48, a + 1) n := by
    by_cases c : n ≤ 3
    · have := pNuT_stp sn (3 - n)
      rw [show n + (3 - n) = 3 by omega] at this
      exact this
    · have := pNuT_stp s3 (n - 3)
      rw [show 3 + (n - 3) = n by omega] at this
      exact this.symm
  unfold pNu
  rw [h1, ← e]
  exact ⟨rfl, rfl⟩
/-! an order, read by both -/
def kRd (o m : Nat) (O0 : Nat → Int32) (x : cX) (y : pX) : Prop := x.1 = y.1 ∧ x.2.1 = y.2.1 ∧ (∀ j, j ≤ 5 * o → y.2.2 j = O0 j) ∧ (x.1 = true → x.2.2.2 = m ∧ ∀ i, i < m → x.2.2.1 i = y.2.2 (5 * o + 1 + i))
def cStp (P : Nat → Int32) (n : Nat) (ch : Int32) (x : cX) : cX := if x.1 = true then cPart P n ch x.2.1 x.2.2.1 x.2.2.2 else x
theorem cParts_S {P : Nat → Int32} {n i a : Nat} {V : Nat → Int32} (k : Nat) : cParts P n i a V (k + 1) = cStp P n ((kByt.getD i []).getD k 0) (cParts P n i a V k) := rfl
section RD
variable {P : Nat → Int32} {n o m : Nat} {O0 : Nat → Int32} {x : cX} {y : pX}
theorem kRd_S (h : kRd o m O0 x y) {c : Int32} (h1 : c ≠ 68) (h2 : c ≠ 78) : kRd o m O0 (cStp P n c x) (pS P n c y) := by
  obtain ⟨x1, a, V, vc⟩ := x
  obtain ⟨y1, b, O⟩ := y
  obtain ⟨e1, e2, e3, e4⟩ := h
  dsimp only at e1 e2 e3 e4
  subst e1 e2
  unfold cStp pS cPart cSn
  rw [if_neg h1, if_neg h2]
  cases x1 with
  | false => exact ⟨rfl, rfl, e3, fun z => by cases z⟩
  | true => exact ⟨rfl, rfl, e3, fun _ => e4 rfl⟩
theorem kRd_D (h : kRd o m O0 x y) (hm : m < 4) : kRd o (m + 1) O0 (cStp P n 68 x) (pD P n (5 * o + 1 + m) y) := by
  obtain ⟨x1, a, V, vc⟩ := x
  obtain ⟨y1, b, O⟩ := y
  obtain ⟨e1, e2, e3, e4⟩ := h
  dsimp only at e1 e2 e3 e4
  subst e1 e2
  unfold cStp pD cPart cDg
  cases x1 with
  | false => exact ⟨rfl, rfl, e3, fun z => by cases z⟩
  | true =>
    obtain ⟨rfl, e5⟩ := e4 rfl
    rw [if_pos rfl, if_pos rfl, if_pos rfl]
    dsimp only
    unfold pSg pDgO
    by_cases c : pAt P n a 48 53
    · rw [if_pos c, if_pos c, if_pos c]
      refine ⟨(decide_eq_true c).symm, rfl, fun j hj => by dsimp only; rw [upd_o (by omega)]; exact e3 j hj, fun _ => ⟨?_, fun i hi => ?_⟩⟩
      · show kpC vc = vc + 1
        unfold kpC
        rw [if_pos hm]
      · show kpV V vc (P a - 48) i = upd O (5 * o + 1 + vc) (P a - 48) (5 * o + 1 + i)
        unfold kpV
        rw [if_pos hm]
        by_cases ci : i = vc
        · subst ci; rw [upd_s, upd_s]
        · rw [upd_o ci, upd_o (by omega)]; exact e5 i (by omega)
    · rw [if_neg c, if_neg c, if_neg c]
      exact ⟨(decide_eq_false c).symm, rfl, e3, fun z => by cases z⟩
theorem kRd_N (h : kRd o m O0 x y) (hm : m < 4) : kRd o (m + 1) O0 (cStp P n 78 x) (pN P n (5 * o + 1 + m) y) := by
  obtain ⟨x1, a, V, vc⟩ := x
  obtain ⟨y1, b, O⟩ := y
  obtain ⟨e1, e2, e3, e4⟩ := h
  dsimp only at e1 e2 e3 e4
  subst e1 e2
  unfold cStp pN cPart cNm
  cases x1 with
  | false => exact ⟨rfl, rfl, e3, fun z => by cases z⟩
  | true =>
    obtain ⟨rfl, e5⟩ := e4 rfl
    rw [if_pos rfl, if_neg (by decide), if_pos rfl, if_pos rfl]
    dsimp only
    unfold pNuA pNuO
    by_cases c : pAt P n a 48 57
    · obtain ⟨n1, n2⟩ := cNuT_m c
      rw [if_pos c, if_pos c, if_pos c, n1, n2]
      refine ⟨(decide_eq_true c).symm, rfl, fun j hj => by dsimp only; rw [upd_o (by omega)]; exact e3 j hj, fun _ => ⟨?_, fun i hi => ?_⟩⟩
      · show kpC vc = vc + 1
        unfold kpC
        rw [if_pos hm]
      · show kpV V vc (pNu P n a).1 i = upd O (5 * o + 1 + vc) (pNu P n a).1 (5 * o + 1 + i)
        unfold kpV
        rw [if_pos hm]
        by_cases ci : i = vc
        · subst ci; rw [upd_s, upd_s]
        · rw [upd_o ci, upd_o (by omega)]; exact e5 i (by omega)
    · rw [if_neg c, if_neg c, if_neg c]
      exact ⟨(decide_eq_false c).symm, rfl, e3, fun z => by cases z⟩
end RD
