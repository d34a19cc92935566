/-! the class's mill and the reference's row: the same numbers, each at its place -/
theorem sM_at (M : kN) (q k : Nat) (v : Int32) (q' k' : Nat) : sM M q k v q' k' = if q' = q ∧ k' = k then v else M q' k' := by
  show (if q' = q then upd (M q) k v else M q') k' = _
  by_cases h : q' = q
  · subst h
    rw [if_pos rfl]
    show (if k' = k then v else M q' k') = _
    by_cases h2 : k' = k
    · rw [if_pos h2, if_pos ⟨rfl, h2⟩]
    · rw [if_neg h2, if_neg (fun z => h2 z.2)]
  · rw [if_neg h, if_neg (fun z => h z.1)]
theorem sM_comm {M : kN} {q k q' k' : Nat} {v v' : Int32} (h : q ≠ q') : sM (sM M q k v) q' k' v' = sM (sM M q' k' v') q k v := by
  funext a b
  rw [sM_at, sM_at, sM_at, sM_at]
  by_cases h1 : a = q' ∧ b = k'
  · rw [if_pos h1, if_neg (fun z => h (z.1.symm.trans h1.1)), if_pos h1]
  · rw [if_neg h1, if_neg h1]
/-- place k of the class's row q is number j of the reference's row, where there are so many fields, stops, loads -/
def kRl (nF nS nY q k j : Nat) : Prop :=
  (q = 0 ∧ k < 7 ∧ j = 3 + k) ∨ (q = 1 ∧ k < 6 ∧ j = 10 + k) ∨ (2 ≤ q ∧ q < 6 ∧ k < 6 ∧ j + 2 = 32 + 4 * k + q) ∨ (6 ≤ q ∧ q < 14 ∧ k < nF ∧ j + 6 = 56 + 8 * k + q) ∨ (14 ≤ q ∧ q < 16 ∧ k < nS ∧ j + 14 = 16 + 2 * k + q) ∨ (16 ≤ q ∧ q < 19 ∧ k < nY ∧ j + 16 = 297 + 3 * k + q) ∨
  (q = 19 ∧ ((k = 0 ∧ j = 0) ∨ (k = 1 ∧ j = 27) ∨ (k = 2 ∧ j = 30) ∨ (k = 3 ∧ j = 31) ∨ (k = 4 ∧ j = 1) ∨ (k = 5 ∧ j = 2) ∨ (k = 6 ∧ j = 296)))
def kSm (nF nS nY : Nat) (M : kN) (s : kS) : Prop := ∀ q k j, kRl nF nS nY q k j → M q k = s j
theorem kRl_inj {nF nS nY q k q' k' j : Nat} (hF : nF ≤ 30) (hS : nS ≤ 5) (h : kRl nF nS nY q k j) (h' : kRl nF nS nY q' k' j) : q = q' ∧ k = k' := by
  rcases h with h | h | h | h | h | h | ⟨h0, h | h | h | h | h | h | h⟩ <;> rcases h' with g | g | g | g | g | g | ⟨g0, g | g | g | g | g | g | g⟩ <;> omega
theorem kRl_fun {nF nS nY q k j j' : Nat} (h : kRl nF nS nY q k j) (h' : kRl nF nS nY q k j') : j = j' := by
  rcases h with h | h | h | h | h | h | ⟨h0, h | h | h | h | h | h | h⟩ <;> rcases h' with g | g | g | g | g | g | ⟨g0, g | g | g | g | g | g | g⟩ <;> omega
theorem kRl_no {nF nS nY j : Nat} (hF : nF ≤ 30) (hS : nS ≤ 5) (hj : j = 26 ∨ j = 28 ∨ j = 29) : ∀ q k, ¬ kRl nF nS nY q k j := by
  intro q k h
  rcases h with h | h | h | h | h | h | ⟨h0, h | h | h | h | h | h | h⟩ <;> omega
theorem kRl_197 {nF nS nY j : Nat} : ¬ kRl nF nS nY 19 7 j := by
  intro h
  rcases h with h | h | h | h | h | h | ⟨h0, h | h | h | h | h | h | h⟩ <;> omega
theorem kRl_dn {nF nS nY nF' nS' nY' q k j : Nat} (h : kRl nF nS nY q k j) (h1 : 6 ≤ q → q < 14 → k < nF → k < nF') (h2 : 14 ≤ q → q < 16 → k < nS → k < nS') (h3 : 16 ≤ q → q < 19 → k < nY → k < nY') : kRl nF' nS' nY' q k j := by
  rcases h with h | h | h | h | h | h | h
  · exact Or.inl h
  · exact Or.inr (Or.inl h)
  · exact Or.inr (Or.inr (Or.inl h))
  · exact Or.inr (Or.inr (Or.inr (Or.inl ⟨h.1, h.2.1, h1 h.1 h.2.1 h.2.2.1, h.2.2.2⟩)))
  · exact Or.inr (Or.inr (Or.inr (Or.inr (Or.inl ⟨h.1, h.2.1, h2 h.1 h.2.1 h.2.2.1, h.2.2.2⟩))))
  · exact Or.inr (Or.inr (Or.inr (Or.inr (Or.inr (Or.inl ⟨h.1, h.2.1, h3 h.1 h.2.1 h.2.2.1, h.2.2.2⟩)))))
  · exact Or.inr (Or.inr (Or.inr (Or.inr (Or.inr (Or.inr h)))))
theorem kRl_se {nF nS nY k : Nat} (hk : k < 7) : kRl nF nS nY 0 k (3 + k) := Or.inl ⟨rfl, hk, rfl⟩
theorem kRl_qu {nF nS nY k : Nat} (hk : k < 6) : kRl nF nS nY 1 k (10 + k) := Or.inr (Or.inl ⟨rfl, hk, rfl⟩)
theorem kRl_gw {nF nS nY k : Nat} (i : Nat) (hk : k < 6) (hi : i < 4) : kRl nF nS nY (2 + i) k (32 + 4 * k + i) := Or.inr (Or.inr (Or.inl ⟨by omega, by omega, hk, by omega⟩))
theorem kRl_fd {nF nS nY k : Nat} (i : Nat) (hk : k < nF) (hi : i < 8) : kRl nF nS nY (6 + i) k (56 + 8 * k + i) := Or.inr (Or.inr (Or.inr (Or.inl ⟨by omega, by omega, hk, by omega⟩)))
theorem kRl_st {nF nS nY k : Nat} (i : Nat) (hk : k < nS) (hi : i < 2) : kRl nF nS nY (14 + i) k (16 + 2 * k + i) := Or.inr (Or.inr (Or.inr (Or.inr (Or.inl ⟨by omega, by omega, hk, by omega⟩))))
theorem kRl_ld {nF nS nY k : Nat} (i : Nat) (hk : k < nY) (hi : i < 3) : kRl nF nS nY (16 + i) k (297 + 3 * k + i) := Or.inr (Or.inr (Or.inr (Or.inr (Or.inr (Or.inl ⟨by omega, by omega, hk, by omega⟩)))))
theorem kRl_0 {nF nS nY : Nat} : kRl nF nS nY 19 0 0 := Or.inr (Or.inr (Or.inr (Or.inr (Or.inr (Or.inr ⟨rfl, Or.inl ⟨rfl, rfl⟩⟩)))))
theorem kRl_1 {nF nS nY : Nat} : kRl nF nS nY 19 1 27 := Or.inr (Or.inr (Or.inr (Or.inr (Or.inr (Or.inr ⟨rfl, Or.inr (Or.inl ⟨rfl, rfl⟩)⟩)))))
theorem kRl_2 {nF nS nY : Nat} : kRl nF nS nY 19 2 30 := Or.inr (Or.inr (Or.inr (Or.inr (Or.inr (Or.inr ⟨rfl, Or.inr (Or.inr (Or.inl ⟨rfl, rfl⟩))⟩)))))
theorem kRl_3 {nF nS nY : Nat} : kRl nF nS nY 19 3 31 := Or.inr (Or.inr (Or.inr (Or.inr (Or.inr (Or.inr ⟨rfl, Or.inr (Or.inr (Or.inr (Or.inl ⟨rfl, rfl⟩)))⟩)))))
theorem kRl_4 {nF nS nY : Nat} : kRl nF nS nY 19 4 1 := Or.inr (Or.inr (Or.inr (Or.inr (Or.inr (Or.inr ⟨rfl, Or.inr (Or.inr (Or.inr (Or.inr (Or.inl ⟨rfl, rfl⟩))))⟩)))))
theorem kRl_5 {nF nS nY : Nat} : kRl nF nS nY 19 5 2 := Or.inr (Or.inr (Or.inr (Or.inr (Or.inr (Or.inr ⟨rfl, Or.inr (Or.inr (Or.inr (Or.inr (Or.inr (Or.inl ⟨rfl, rfl⟩)))))⟩)))))
theorem kRl_6 {nF nS nY : Nat} : kRl nF nS nY 19 6 296 := Or.inr (Or.inr (Or.inr (Or.inr (Or.inr (Or.inr ⟨rfl, Or.inr (Or.inr (Or.inr (Or.inr (Or.inr (Or.inr ⟨rfl, rfl⟩)))))⟩)))))
section KSM
variable {nF nS nY : Nat} {M : kN} {s : kS}
theorem kSm.put (h : kSm nF nS nY M s) (hF : nF ≤ 30) (hS : nS ≤ 5) (q k j : Nat) {v w : Int32} (hj : kRl nF nS nY q k j) (e : v = w) : kSm nF nS nY (sM M q k v) (upd s j w) := by
  subst e
  intro q' k' j' h'
  rw [sM_at]
  by_cases c : q' = q ∧ k' = k
  · obtain ⟨rfl, rfl⟩ := c
    rw [if_pos ⟨rfl, rfl⟩, kRl_fun h' hj, upd_s]
  · rw [if_neg c, upd_o (fun z => c (by subst z; exact kRl_inj hF hS h' hj))]
    exact h q' k' j' h'
theorem kSm.putR (h : kSm nF nS nY M s) {j : Nat} {w : Int32} (hj : ∀ q k, ¬ kRl nF nS nY q k j) : kSm nF nS nY M (upd s j w) := by
  intro q' k' j' h'
  rw [upd_o (fun z => hj q' k' (by subst z; exact h'))]
  exact h q' k' j' h'
theorem kSm.putM (h : kSm nF nS nY M s) {v : Int32} : kSm nF nS nY (sM M 19 7 v) s := by
  intro q' k' j' h'
  rw [sM_at, if_neg (fun z => by obtain ⟨rfl, rfl⟩ := z; exact kRl_197 h')]
  exact h q' k' j' h'
theorem kSm.mono {nF' nS' nY' : Nat} (h : kSm nF nS nY M s) (h1 : nF' ≤ nF) (h2 : nS' ≤ nS) (h3 : nY' ≤ nY) : kSm nF' nS' nY' M s := fun q k j hj => h q k j (kRl_dn hj (fun _ _ _ => by omega) (fun _ _ _ => by omega) (fun _ _ _ => by omega))
theorem kSm.se (h : kSm nF nS nY M s) {k : Nat} (hk : k < 7) : M 0 k = s (3 + k) := h 0 k _ (kRl_se hk)
theorem kSm.qu (h : kSm nF nS nY M s) {g : Nat} (hg : g < 6) : M 1 g = s (10 + g) := h 1 g _ (kRl_qu hg)
theorem kSm.gw (h : kSm nF nS nY M s) {g i : Nat} (hg : g < 6) (hi : i < 4) : M (2 + i) g = s (32 + 4 * g + i) := h (2 + i) g _ (kRl_gw i hg hi)
theorem kSm.fd (h : kSm nF nS nY M s) {f i : Nat} (hf : f < nF) (hi : i < 8) : M (6 + i) f = s (56 + 8 * f + i) := h (6 + i) f _ (kRl_fd i hf hi)
theorem kSm.st (h : kSm nF nS nY M s) {k i : Nat} (hk : k < nS) (hi : i < 2) : M (14 + i) k = s (16 + 2 * k + i) := h (14 + i) k _ (kRl_st i hk hi)
theorem kSm.ld (h : kSm nF nS nY M s) {k i : Nat} (hk : k < nY) (hi : i < 3) : M (16 + i) k = s (297 + 3 * k + i) := h (16 + i) k _ (kRl_ld i hk hi)
theorem kSm.now (h : kSm nF nS nY M s) : M 19 0 = s 0 := h 19 0 _ (kRl_0)
theorem kSm.sug (h : kSm nF nS nY M s) : M 19 1 = s 27 := h 19 1 _ (kRl_1)
theorem kSm.lo (h : kSm nF nS nY M s) : M 19 2 = s 30 := h 19 2 _ (kRl_2)
theorem kSm.idl (h : kSm nF nS nY M s) : M 19 3 = s 31 := h 19 3 _ (kRl_3)
theorem kSm.cF (h : kSm nF nS nY M s) : M 19 4 = s 1 := h 19 4 _ (kRl_4)
theorem kSm.cS (h : kSm nF nS nY M s) : M 19 5 = s 2 := h 19 5 _ (kRl_5)
theorem kSm.cY (h : kSm nF nS nY M s) : M 19 6 = s 296 := h 19 6 _ (kRl_6)
end KSM
theorem sTo_cong {f g : Nat → Int32} : ∀ n, (∀ k, k < n → f k = g k) → sTo f n = sTo g n
  | 0, _ => rfl
  | n + 1, h => by
    show sTo f n + f n = sTo g n + g n
    rw [sTo_cong n (fun k hk => h k (by omega)), h n (by omega)]
theorem i_swap (a b c : Int32) : a + b + c = a + c + b := by rw [Int32.add_assoc, Int32.add_comm b c, ← Int32.add_assoc]
theorem sTo_upd {f : Nat → Int32} {g : Nat} {t : Int32} : ∀ n, sTo (upd f g (f g + t)) n = if g < n then sTo f n + t else sTo f n
  | 0 => by rw [if_neg (by omega)]; rfl
  | n + 1 => by
    show sTo (upd f g (f g + t)) n + upd f g (f g + t) n = _
    rw [sTo_upd n]
    by_cases h : n = g
    · subst h
      rw [if_neg (by omega), upd_s, if_pos (by omega), ← Int32.add_assoc]
      rfl
    · rw [upd_o h]
      by_cases h2 : g < n
      · rw [if_pos h2, if_pos (by omega), i_swap]
        rfl
      · rw [if_neg h2, if_neg (by omega)]
        rfl
theorem mYd_cong {s u : kS} : ∀ n, (∀ k, k < n → u (297 + 3 * k + 1) = s (297 + 3 * k + 1)) → mYd u n = mYd s n
  | 0, _ => rfl
  | n + 1, h => by
    show mYd u n + _ = mYd s n + _
    rw [mYd_cong n (fun k hk => h k (by omega)), h n (by omega)]
/-- what the class keeps besides: the yard's tonnes, the growers' sums -/
def kTl (nY : Nat) (M : kN) (s : kS) : Prop := M 19 7 = mYd s nY ∧ sTo (M 3) 6 = s 26 ∧ sTo (M 4) 6 = s 28 ∧ sTo (M 5) 6 = s 29
def kSim (M : kN) (s : kS) : Prop := kSm (mF s) (mS s) (mY s) M s ∧ kTl (mY s) M s
/-- numbers that stay in their ranges -/
def mOn (s : kS) : Nat → Int
  | 0 => 0
  | f + 1 => mOn s f + (s (56 + 8 * f + 4)).toInt
def mG (s : kS) : Prop := (0 ≤ (s 6).toInt ∧ 1 ≤ (s 8).toInt) ∧ (∀ f, f < mF s → (0 ≤ (s (56 + 8 * f + 3)).toInt ∧ (s (56 + 8 * f + 3)).toInt ≤ 999) ∧ 0 ≤ (s (56 + 8 * f + 4)).toInt) ∧ 0 ≤ (s 28).toInt ∧ mOn s (mF s) + (s 28).toInt ≤ 300 * mF s
def mNw (s : kS) (b : Int) : Prop := 0 ≤ (s 0).toInt ∧ (s 0).toInt ≤ b
theorem mOn_cong {s u : kS} : ∀ n, (∀ f, f < n → u (56 + 8 * f + 4) = s (56 + 8 * f + 4)) → mOn u n = mOn s n
  | 0, _ => rfl
  | n + 1, h => by
    show mOn u n + _ = mOn s n + _
    rw [mOn_cong n (fun k hk => h k (by omega)), h n (by omega)]
theorem mOn_upd {s : kS} {g : Nat} {v : Int32} : ∀ n, mOn (upd s (56 + 8 * g + 4) v) n = if g < n then mOn s n - (s (56 + 8 * g + 4)).toInt + v.toInt else mOn s n
  | 0 => by rw [if_neg (by omega)]; rfl
  | n + 1 => by
    show mOn (upd s (56 + 8 * g + 4) v) n + (upd s (56 + 8 * g + 4) v (56 + 8 * n + 4)).toInt = _
    rw [mOn_upd n]
    have e : mOn s (n + 1) = mOn s n + (s (56 + 8 * n + 4)).toInt := rfl
    by_cases h : n = g
    · subst h
      rw [if_neg (by omega), upd_s, if_pos (by omega), e]
      omega
    · rw [upd_o (by omega)]
      by_cases h2 : g < n
      · rw [if_pos h2, if_pos (by omega), e]
        omega
      · rw [if_neg h2, if_neg (by omega), e]
theorem mOn_ge {s : kS} : ∀ n, (∀ f, f < n → 0 ≤ (s (56 + 8 * f + 4)).toInt) → 0 ≤ mOn s n ∧ ∀ f, f < n → (s (56 + 8 * f + 4)).toInt ≤ mOn s n
  | 0, _ => ⟨Int.le_refl _, fun f h => by omega⟩
  | n + 1, h => by
    obtain ⟨h1, h2⟩ := mOn_ge n (fun f hf => h f (by omega))
    have h3 := h n (by omega)
    have e : mOn s (n + 1) = mOn s n + (s (56 + 8 * n + 4)).toInt := rfl
    refine ⟨by omega, fun f hf => ?_⟩
    by_cases hfn : f = n
    · subst hfn; omega
    · have := h2 f (by omega); omega
theorem kSm_nF {nF nS nY : Nat} {M : kN} {s : kS} (h : kSm nF nS nY M s) : nF = nF ∧ M 19 4 = s 1 := ⟨rfl, h.cF⟩
theorem kSim_n {M : kN} {s : kS} (h : kSim M s) : nF M = mF s ∧ nS M = mS s ∧ nY M = mY s ∧ nT M = mT s := by
  unfold nF nS nY nT mF mS mY mT
  refine ⟨by rw [h.1.cF], by rw [h.1.cS], by rw [h.1.cY], ?_⟩
  have := h.1.se (k := 0) (by omega)
  rw [this]
theorem kSm_gr {M : kN} {s : kS} {nF nS nY f : Nat} (h : kSm nF nS nY M s) (hf : f < nF) : gr M f = mg s f := by
  unfold gr mg
  have := h.fd (f := f) (i := 0) hf (by omega)
  rw [← this]
theorem kSim_I {M : kN} {s : kS} (h : kSim M s) (hX : mX s) : cI M := by
  obtain ⟨e1, e2, e3, e4⟩ := kSim_n h
  have h30 := hX.f30
  refine ⟨?_, ?_, ?_, ?_, ?_, ?_⟩
  · rw [e1, h.1.cF]; exact hX.1
  · rw [e2, h.1.cS]; exact hX.2.1
  · rw [e3, h.1.cY]; exact hX.2.2.1
  · rw [e4, h.1.se (k := 0) (by omega)]; exact hX.2.2.2.1
  · intro f hf
    rw [e1] at hf
    rw [kSm_gr h.1 hf]
    have := h.1.fd (f := f) (i := 0) hf (by omega)
    rw [this]
    exact hX.g hf
  · intro k hk
    rw [e3] at hk
    have e := h.1.ld (k := k) (i := 0) hk (by omega)
    have e5 : fi M k = ml s k := by
      show (M (16 + 0) k).toNatClampNeg = _
      rw [e]
      rfl
    rw [e5, e1]
    have e' : M 16 k = s (297 + 3 * k) := e
    rw [e']
    exact hX.l hk
