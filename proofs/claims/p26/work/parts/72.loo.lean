/-! ===== lN n to 2^64: shifts, and, or, masks, one bit ===== -/
theorem wb_tb (n : Nat) : (lN n).toBitVec = BitVec.ofNat 64 n := rfl
theorem wb_inj {a b : Int64} (h : a.toBitVec = b.toBitVec) : a = b := Int64.toBitVec_inj.mp h
theorem wb_tn {n : Nat} (h : n < 2 ^ 64) : (lN n).toBitVec.toNat = n := by rw [wb_tb, BitVec.toNat_ofNat, Nat.mod_eq_of_lt h]
theorem wb_of (x : Int64) : ∃ n, n < 2 ^ 64 ∧ x = lN n := ⟨x.toBitVec.toNat, x.toBitVec.isLt, wb_inj (by rw [wb_tb]; simp)⟩
theorem wb_of32 (x : Int32) : ∃ n, n < 2 ^ 32 ∧ x = nI n := ⟨x.toBitVec.toNat, x.toBitVec.isLt, Int32.toBitVec_inj.mp (by show _ = BitVec.ofNat 32 _; simp)⟩
theorem wb_c : ∀ k, k < 64 → ((nI k).toInt64 &&& 63) = lN k := by decide +kernel
theorem wb_cu : ∀ k, k < 64 → ((nI k).toInt64.toUInt64 &&& Int64.toUInt64 63) = UInt64.ofNat k := by decide +kernel
theorem wb_sm : ∀ k, k < 64 → (BitVec.ofNat 64 k).smod 64 = BitVec.ofNat 64 k := by decide +kernel
theorem wb_pw {a b : Nat} (h : a ≤ b) : 2 ^ b = 2 ^ a * 2 ^ (b - a) := by rw [← Nat.pow_add]; congr 1; omega
theorem wb_lt2 {a b : Nat} (h : a < b) : 2 ^ a < 2 ^ b := Nat.pow_lt_pow_right (by decide) h
theorem wb_mod (n : Nat) : lN n = lN (n % 2 ^ 64) := wb_inj (by rw [wb_tb, wb_tb]; apply BitVec.eq_of_toNat_eq; rw [BitVec.toNat_ofNat, BitVec.toNat_ofNat, Nat.mod_mod])
theorem wb_shr {n k : Nat} (hn : n < 2 ^ 64) (hk : k < 64) : ((lN n).toUInt64 >>> ((nI k).toInt64.toUInt64 &&& Int64.toUInt64 63)).toInt64 = lN (n / 2 ^ k) := by
  rw [wb_cu k hk]
  apply wb_inj
  apply BitVec.eq_of_toNat_eq
  show ((lN n).toUInt64 >>> UInt64.ofNat k).toNat = (BitVec.ofNat 64 _).toNat
  have h1 : (UInt64.ofNat k).toNat = k := by
    show (BitVec.ofNat 64 k).toNat = k
    rw [BitVec.toNat_ofNat, Nat.mod_eq_of_lt (by omega)]
  have h2 : (lN n).toUInt64.toNat = n := wb_tn hn
  rw [UInt64.toNat_shiftRight, h1, h2, Nat.mod_eq_of_lt hk, Nat.shiftRight_eq_div_pow, BitVec.toNat_ofNat, Nat.mod_eq_of_lt (Nat.lt_of_le_of_lt (Nat.div_le_self _ _) hn)]
theorem wb_shl (n : Nat) {k : Nat} (hk : k < 64) : lN n <<< ((nI k).toInt64 &&& 63) = lN (n * 2 ^ k) := by
  rw [wb_c k hk]
  apply wb_inj
  rw [Int64.toBitVec_shiftLeft, wb_tb, wb_tb, wb_tb, wb_sm k hk]
  apply BitVec.eq_of_toNat_eq
  rw [BitVec.shiftLeft_eq', BitVec.toNat_shiftLeft, BitVec.toNat_ofNat, BitVec.toNat_ofNat, BitVec.toNat_ofNat, Nat.mod_eq_of_lt (show k < 2 ^ 64 by omega), Nat.shiftLeft_eq, Nat.mul_mod, Nat.mod_mod, ← Nat.mul_mod]
theorem wb_and {a b : Nat} (ha : a < 2 ^ 64) (hb : b < 2 ^ 64) : lN a &&& lN b = lN (a &&& b) := by
  apply wb_inj
  rw [Int64.toBitVec_and, wb_tb, wb_tb, wb_tb]
  apply BitVec.eq_of_toNat_eq
  rw [BitVec.toNat_and, BitVec.toNat_ofNat, BitVec.toNat_ofNat, BitVec.toNat_ofNat, Nat.mod_eq_of_lt ha, Nat.mod_eq_of_lt hb, Nat.mod_eq_of_lt (Nat.and_lt_two_pow _ hb)]
theorem wb_or {a b : Nat} (ha : a < 2 ^ 64) (hb : b < 2 ^ 64) : lN a ||| lN b = lN (a ||| b) := by
  apply wb_inj
  rw [Int64.toBitVec_or, wb_tb, wb_tb, wb_tb]
  apply BitVec.eq_of_toNat_eq
  rw [BitVec.toNat_or, BitVec.toNat_ofNat, BitVec.toNat_ofNat, BitVec.toNat_ofNat, Nat.mod_eq_of_lt ha, Nat.mod_eq_of_lt hb, Nat.mod_eq_of_lt (Nat.or_lt_two_pow ha hb)]
theorem wb_mask {n k : Nat} (hn : n < 2 ^ 64) (hk : k < 64) : lN n &&& lN (2 ^ k - 1) = lN (n % 2 ^ k) := by
  rw [wb_and hn (by have := wb_lt2 hk; omega), Nat.and_two_pow_sub_one_eq_mod]
/-! p26: fields as bits -/
def pB (M : kN) (h d : Int32) : Nat → Nat
  | 0 => 0
  | k + 1 => if cHow M k d = h then pB M h d k ||| 2 ^ k else pB M h d k
theorem pB_t (M : kN) (h d : Int32) : ∀ k i, (pB M h d k).testBit i = (decide (i < k) && decide (cHow M i d = h))
  | 0, i => by
    show (0 : Nat).testBit i = _
    rw [Nat.zero_testBit, decide_eq_false (by omega : ¬ i < 0)]
    rfl
  | k + 1, i => by
    have ih := pB_t M h d k i
    unfold pB
    by_cases e : i = k
    · subst e
      by_cases c : cHow M i d = h
      · rw [if_pos c, Nat.testBit_or, ih, Nat.testBit_two_pow_self, decide_eq_true (by omega : i < i + 1), decide_eq_true c, Bool.or_true]
        rfl
      · rw [if_neg c, ih, decide_eq_false c, Bool.and_false, Bool.and_false]
    · have e1 : decide (i < k + 1) = decide (i < k) := decide_eq_decide.mpr (by omega)
      rw [e1]
      by_cases c : cHow M k d = h
      · rw [if_pos c, Nat.testBit_or, ih, Nat.testBit_two_pow_of_ne (fun q => e q.symm), Bool.or_false]
      · rw [if_neg c, ih]
theorem pB_lt (M : kN) (h d : Int32) {k : Nat} (hk : k ≤ 30) : pB M h d k < 2 ^ 64 := by
  refine Nat.lt_of_lt_of_le (Nat.lt_pow_two_of_testBit (n := 30) _ (fun i hi => ?_)) (Nat.pow_le_pow_right (by decide) (by decide))
  rw [pB_t, decide_eq_false (by omega : ¬ i < k), Bool.false_and]
theorem cSetTo_B (M : kN) (h d : Int32) : ∀ k, k ≤ 30 → cSetTo M h d k = lN (pB M h d k)
  | 0, _ => rfl
  | k + 1, hk => by
    have ih := cSetTo_B M h d k (by omega)
    unfold cSetTo pB
    by_cases c : cHow M k d = h
    · rw [if_pos c, if_pos c, ih, show (1 : Int64) = lN 1 from rfl, wb_shl 1 (by omega), Nat.one_mul, wb_or (pB_lt M h d (by omega)) (Nat.pow_lt_pow_right (by decide) (by omega))]
    · rw [if_neg c, if_neg c, ih]
/-- the fields of the first so many kinds -/
def cAll (M : kN) : Nat → Int64
  | 0 => 0
  | q + 1 => cAll M q ||| cFields M (nI q)
def pA (M : kN) (d : Int32) (n : Nat) : Nat → Nat
  | 0 => 0
  | q + 1 => pA M d n q ||| pB M (nI q) d n
theorem cHow_4 (M : kN) (f : Nat) (d : Int32) : cHow M f d = nI 0 ∨ cHow M f d = nI 1 ∨ cHow M f d = nI 2 ∨ cHow M f d = nI 3 := by
  unfold cHow
  rcases j_how (now := d) (b := M 9 f) (l := M 10 f) (g := M 13 f) with ⟨e, -⟩ | ⟨-, ⟨e, -⟩ | ⟨-, ⟨e, -⟩ | ⟨e, -⟩⟩⟩
  · exact Or.inl e
  · exact Or.inr (Or.inl e)
  · exact Or.inr (Or.inr (Or.inl e))
  · exact Or.inr (Or.inr (Or.inr e))
/-- a field's kind, as a number -/
def pH (M : kN) (f : Nat) (d : Int32) : Nat := (cHow M f d).toNatClampNeg
theorem pH_eq (M : kN) (f : Nat) (d : Int32) {q : Nat} (hq : q < 4) : cHow M f d = nI q ↔ pH M f d = q := by
  unfold pH
  rcases cHow_4 M f d with e | e | e | e <;> rw [e, nI_clamp (by omega), nI_eq (by omega) (by omega)]
theorem pH_4 (M : kN) (f : Nat) (d : Int32) : pH M f d < 4 := by
  unfold pH
  rcases cHow_4 M f d with e | e | e | e <;> rw [e, nI_clamp (by omega)] <;> omega
theorem pA_t (M : kN) (d : Int32) (n : Nat) : ∀ q, q ≤ 4 → ∀ i, (pA M d n q).testBit i = (decide (i < n) && decide (pH M i d < q))
  | 0, _, i => by
    show (0 : Nat).testBit i = _
    rw [Nat.zero_testBit, decide_eq_false (by omega : ¬ pH M i d < 0), Bool.and_false]
  | q + 1, hq, i => by
    have ih := pA_t M d n q (by omega) i
    have e : decide (cHow M i d = nI q) = decide (pH M i d = q) := decide_eq_decide.mpr (pH_eq M i d (q := q) (by omega))
    show (pA M d n q ||| pB M (nI q) d n).testBit i = _
    rw [Nat.testBit_or, ih, pB_t, e, ← Bool.and_or_distrib_left]
    congr 1
    by_cases c : pH M i d < q
    · rw [decide_eq_true c, decide_eq_true (by omega : pH M i d < q + 1)]; rfl
    · rw [decide_eq_false c, Bool.false_or]
      exact decide_eq_decide.mpr (by omega)
theorem pA_lt (M : kN) (d : Int32) {n : Nat} (hn : n ≤ 30) {q : Nat} (hq : q ≤ 4) : pA M d n q < 2 ^ 64 := by
  refine Nat.lt_of_lt_of_le (Nat.lt_pow_two_of_testBit (n := 30) _ (fun i hi => ?_)) (Nat.pow_le_pow_right (by decide) (by decide))
  rw [pA_t M d n q hq, decide_eq_false (by omega : ¬ i < n), Bool.false_and]
theorem cFields_B {M : kN} (hI : cI M) {q : Nat} (hq : q < 4) : cFields M (nI q) = lN (pB M (nI q) (M 19 0) (nF M)) := by
  unfold cFields
  have p : pIn (nI q) 0 3 := pIn_nI (b := 3) (by omega) (by omega)
  rw [if_pos p, cSetTo_B _ _ _ _ hI.f30]
theorem cAll_A {M : kN} (hI : cI M) : ∀ q, q ≤ 4 → cAll M q = lN (pA M (M 19 0) (nF M) q)
  | 0, _ => rfl
  | q + 1, hq => by
    have ih := cAll_A hI q (by omega)
    show cAll M q ||| cFields M (nI q) = _
    rw [ih, cFields_B hI (by omega), wb_or (pA_lt M _ hI.f30 (by omega)) (pB_lt M _ _ hI.f30)]
    rfl
/-- no field is of two kinds -/
theorem pt_two {M : kN} (hI : cI M) {q : Nat} (hq : q < 4) : cAll M q &&& cFields M (nI q) = 0 := by
  rw [cAll_A hI q (by omega), cFields_B hI hq, wb_and (pA_lt M _ hI.f30 (by omega)) (pB_lt M _ _ hI.f30)]
  have e : pA M (M 19 0) (nF M) q &&& pB M (nI q) (M 19 0) (nF M) = 0 := by
    refine Nat.eq_of_testBit_eq (fun i => ?_)
    rw [Nat.testBit_and, pA_t M _ _ q (by omega), pB_t, Nat.zero_testBit, decide_eq_decide.mpr (pH_eq M i (M 19 0) hq)]
    by_cases c : pH M i (M 19 0) = q
    · rw [decide_eq_false (by omega : ¬ pH M i (M 19 0) < q), Bool.and_false, Bool.false_and]
    · rw [decide_eq_false c, Bool.and_false, Bool.and_false]
  rw [e]
  rfl
theorem pw_sub : ∀ n, n < 31 → ((1 : Int64) <<< ((nI n).toInt64 &&& 63)) - 1 = lN (2 ^ n - 1) := by decide +kernel
/-- each is of one -/
theorem pt_each {M : kN} (hI : cI M) : cAll M 4 = ((1 : Int64) <<< ((nI (nF M)).toInt64 &&& 63)) - 1 := by
  have h30 := hI.f30
  rw [cAll_A hI 4 (by omega), pw_sub _ (by omega)]
  congr 1
  refine Nat.eq_of_testBit_eq (fun i => ?_)
  rw [pA_t M _ _ 4 (by omega), Nat.testBit_two_pow_sub_one, decide_eq_true (pH_4 M i (M 19 0)), Bool.and_true]
/-! what is next, what would be -/
theorem pt_next {M : kN} (h : pOK M) {f : Nat} (hc : cNextO M = some f) : f < nF M ∧ cHow M f (M 19 0) = 1 ∧ ¬ M 1 (gr M f) ≤ 0 ∧ ¬ M 0 3 ≤ M 19 7 := by
  obtain ⟨h1, ⟨h2, h3⟩, h4⟩ := cNextO_can hc
  obtain ⟨-, w, -, hp⟩ := h
  obtain ⟨-, r1, r2⟩ := hp.room h4
  rw [i_lt, i_0] at h3
  refine ⟨h1, h2, ?_, ?_⟩
  · rw [i_le, i_0]; omega
  · rw [i_le]; omega
theorem sTo_5 {M : kN} {w d : Int} {z : Nat} (h : pI w d z M) : (sTo (M 5) 6).toInt = jS (jV M 5) 6 ∧ 0 ≤ jS (jV M 5) 6 ∧ jS (jV M 5) 6 ≤ 53946000 := by
  have g := fun g hg => h.2.2.g3 (g := g) hg
  have b0 := (jS_ge (r := jV M 5) 6 (fun k hk => by have := g k hk; omega)).1
  have b1 := jS_le (r := jV M 5) (c := 8991000) 6 (fun k hk => by have := g k hk; omega)
  refine ⟨j_sTo _ (fun k hk => by have := g k hk; simp only [jV_at] at this; omega) ?_, b0, by omega⟩
  show jS (jV M 5) 6 < _; omega
theorem sTo_4 {M : kN} {w d : Int} {z : Nat} (h : pI w d z M) : (sTo (M 4) 6).toInt = jS (jV M 4) 6 ∧ 0 ≤ jS (jV M 4) 6 ∧ jS (jV M 4) 6 ≤ 9000 := by
  have g := fun g hg => h.2.2.g3 (g := g) hg
  obtain ⟨-, c2, -⟩ := h.2.2.cr
  have e := h.2.2.H.2.2.1
  refine ⟨j_sTo _ (fun k hk => by have := g k hk; simp only [jV_at] at this; omega) ?_, by omega, by omega⟩
  show jS (jV M 4) 6 < _; omega
theorem sug_b {M : kN} {w d : Int} {z : Nat} (h : pI w d z M) : 0 ≤ (M 19 1).toInt ∧ (M 19 1).toInt ≤ 9000 := by
  obtain ⟨c1, -, -⟩ := h.2.2.cr
  have a := h.2.2.H.2.2.2.1
  have b := h.2.2.H.2.2.2.2
  have e := h.2.2.H.2.1
  rw [jV_at] at a b
  omega
theorem mThen_c {M : kN} {s : kS} (hs : kOK M s) {d q : Nat} (hd : 1 ≤ d ∧ d ≤ 300) (hq : q ≤ 2) : mThen s (nI d) (nI q) = cThen M (cDays M 0 d) (nI q) := by
  rw [cThen_m hs hs.1 hd.2]
  unfold mThen
  have p1 : pIn (nI d) 1 300 := ⟨(by rw [show (1 : Int32) = nI 1 from rfl, nI_ltI (by omega) (by omega)]; omega), (by rw [show (300 : Int32) = nI 300 from rfl, nI_ltI (by omega) (by omega)]; omega)⟩
  have p2 : pIn (nI q) 0 2 := pIn_nI (b := 2) (by omega) (by omega)
  rw [if_pos p1, if_pos p2, nI_clamp (by omega)]
theorem pt_then {M : kN} (h : pOK M) {s : kS} (hs : kOK M s) : ¬ mThen s 3 0 < 0 ∧ ¬ (3 : Int32) * M 0 2 < mThen s 3 1 ∧ ¬ mThen s 4 2 < mThen s 3 2 := by
  obtain ⟨-, w, hw, hp⟩ := h
  have hS := hp.2.2.S
  simp only [jSet, jV] at hS
  obtain ⟨a1, a2, a3, a4⟩ := hp.days 0 3 (by omega)
  obtain ⟨b1, b2⟩ := a1.day (by omega) (nI 3 < 0)
  have l0 := sTo_4 hp
  have l3 := sTo_4 a1
  have p0 := sTo_5 hp
  have p3 := sTo_5 a1
  have p4 := sTo_5 b1
  have s0 := sug_b hp
  have s3 := sug_b a1
  have k3 : (3 : Int32).toInt = 3 := by decide
  refine ⟨?_, ?_, ?_⟩
  · rw [show mThen s 3 0 = _ from mThen_c hs (d := 3) (q := 0) (by omega) (by omega)]
    show ¬ sTo (cDays M 0 3 4) 6 - sTo (M 4) 6 < 0
    rw [i_lt, i_0, i_sub (by omega) (by omega)]
    omega
  · rw [show mThen s 3 1 = _ from mThen_c hs (d := 3) (q := 1) (by omega) (by omega)]
    show ¬ (3 : Int32) * M 0 2 < cDays M 0 3 19 1 - M 19 1
    obtain ⟨m, hm, em, em2⟩ := j_nat (x := M 0 2) (by omega)
    have e3 : ((3 : Int32) * M 0 2).toInt = 3 * (M 0 2).toInt := by
      rw [em, show (3 : Int32) = nI 3 from rfl, pk_mul, nI_toInt (by omega), nI_toInt hm]
      omega
    rw [i_lt, e3, i_sub (by omega) (by omega)]
    have a4 : (cDays M 0 3 19 1).toInt ≤ (M 19 1).toInt + (M 0 2).toInt * 3 := a4
    omega
  · rw [show mThen s 4 2 = _ from mThen_c hs (d := 4) (q := 2) (by omega) (by omega), show mThen s 3 2 = _ from mThen_c hs (d := 3) (q := 2) (by omega) (by omega)]
    show ¬ sTo (cDays M 0 4 5) 6 - sTo (M 5) 6 < sTo (cDays M 0 3 5) 6 - sTo (M 5) 6
    have e4 : cDays M 0 4 = cDay (cDays M 0 3) (nI 3 < 0) := rfl
    have b2 : jS (jV (cDays M 0 3) 5) 6 ≤ jS (jV (cDay (cDays M 0 3) (nI 3 < 0)) 5) 6 := b2.2.2.1
    rw [e4, i_lt, i_sub (by omega) (by omega), i_sub (by omega) (by omega)]
    omega
theorem pt_costs (s : kS) : mCosts s 3 0 = 100000 := by
  unfold mCosts
  rw [if_pos (by decide), if_pos (by decide), i_sub0.mpr rfl]
  rfl
theorem i_subs (a b c : Int32) : a - b - c = a - (b + c) := by
  apply Int32.toBitVec_inj.mp
  simp only [Int32.toBitVec_sub, Int32.toBitVec_add]
  exact BitVec.sub_sub _ _ _
