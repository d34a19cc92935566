/-! the signs of a word, by both -/
theorem bv_byte (x : BitVec 64) (i : Nat) (hi : i < 8) : (x.sshiftRight (8 * i)) &&& 255#64 = (x >>> (8 * i)) &&& 255#64 := by
  apply BitVec.eq_of_getLsbD_eq
  intro k hk
  rw [BitVec.getLsbD_and, BitVec.getLsbD_and, BitVec.getLsbD_sshiftRight, BitVec.getLsbD_ushiftRight]
  by_cases h8 : k < 8
  · have : 8 * i + k < 64 := by omega
    simp [this, hk, Nat.not_le.mpr hk]
  · have : (255#64).getLsbD k = false := by
      rw [BitVec.getLsbD_ofNat]
      have e : Nat.testBit 255 k = false := by
        have := Nat.testBit_lt_two_pow (x := 255) (i := k) (Nat.lt_of_lt_of_le (by decide : 255 < 2 ^ 8) (Nat.pow_le_pow_right (by decide) (by omega)))
        exact this
      rw [e]
      simp
    rw [this, Bool.and_false, Bool.and_false]
theorem bSh_s (w : Int64) (i : Nat) (hi : i < 8) : (w >>> ((nI (8 * i)).toInt64 &&& 63)).toBitVec = w.toBitVec.sshiftRight (8 * i) := by
  have e : ∀ j : Fin 8, (((nI (8 * j.val)).toInt64 &&& 63).toBitVec.smod (64 : BitVec 64)).toNat = 8 * j.val := by decide +kernel
  rw [Int64.toBitVec_shiftRight]
  show w.toBitVec.sshiftRight _ = _
  have e' := e ⟨i, hi⟩
  dsimp only at e'
  rw [e']
theorem bSh_u (w : Int64) (i : Nat) (hi : i < 8) : ((w.toUInt64 >>> ((nI (8 * i)).toInt64.toUInt64 &&& Int64.toUInt64 63)).toInt64).toBitVec = w.toBitVec >>> (8 * i) := by
  have e : ∀ j : Fin 8, (((nI (8 * j.val)).toInt64.toUInt64 &&& Int64.toUInt64 63).toBitVec % (64 : BitVec 64)).toNat = 8 * j.val := by decide +kernel
  have e2 : ((w.toUInt64 >>> ((nI (8 * i)).toInt64.toUInt64 &&& Int64.toUInt64 63)).toInt64).toBitVec = (w.toUInt64 >>> ((nI (8 * i)).toInt64.toUInt64 &&& Int64.toUInt64 63)).toBitVec := rfl
  rw [e2, UInt64.toBitVec_shiftRight]
  show w.toBitVec >>> _ = _
  have e' := e ⟨i, hi⟩
  dsimp only at e'
  rw [BitVec.ushiftRight_eq', e']
/-- byte i of a word, as a number -/
def bN (w : Int64) (i : Nat) : Nat := (w.toBitVec.toNat >>> (8 * i)) % 256
theorem b255 (x : BitVec 64) : (x &&& 255#64).toNat = x.toNat % 256 := by
  rw [BitVec.toNat_and]
  exact Nat.and_two_pow_sub_one_eq_mod x.toNat 8
theorem bTo (z : Int64) : (z &&& 255).toInt32 = nI ((z.toBitVec &&& 255#64).toNat) := by
  have e1 : (z.toBitVec &&& 255#64).toNat < 256 := by rw [b255]; omega
  apply Int32.toBitVec_inj.mp
  apply BitVec.eq_of_toNat_eq
  have e2 : (z &&& 255).toInt32.toBitVec = (z.toBitVec &&& 255#64).signExtend 32 := rfl
  rw [e2, BitVec.signExtend_eq_setWidth_of_le _ (by decide), BitVec.toNat_setWidth]
  have e3 : (nI (z.toBitVec &&& 255#64).toNat).toBitVec = BitVec.ofNat 32 (z.toBitVec &&& 255#64).toNat := rfl
  rw [e3, BitVec.toNat_ofNat]
theorem mByte_n (w : Int64) {i : Nat} (hi : i < 8) : mByte w i = nI (bN w i) := by
  unfold mByte
  rw [bTo, bSh_s w i hi, bv_byte _ _ hi, b255, BitVec.toNat_ushiftRight]
  rfl
theorem cBy_n (w : Int64) {i : Nat} (hi : i < 8) : cBy w i = nI (bN w i) := by
  rw [(cBy_c w i).2, bTo, bSh_u w i hi, b255, BitVec.toNat_ushiftRight]
  rfl
theorem bN_lt (w : Int64) (i : Nat) : bN w i < 256 := Nat.mod_lt _ (by decide)
/-- the word behind i signs -/
def bR (w : Int64) (i : Nat) : Nat := w.toBitVec.toNat >>> (8 * i)
theorem cShT_n (w : Int64) : ∀ i, (cShT w i).toBitVec.toNat = bR w i
  | 0 => by
    show w.toBitVec.toNat = w.toBitVec.toNat >>> (8 * 0)
    rw [Nat.mul_zero, Nat.shiftRight_zero]
  | i + 1 => by
    have ih := cShT_n w i
    have e1 : (cShT w (i + 1)).toBitVec = (cShT w i).toBitVec >>> 8 := by
      have := bSh_u (cShT w i) 1 (by decide)
      have e8 : nI (8 * 1) = 8 := by decide
      rw [e8] at this
      exact this
    rw [e1, BitVec.toNat_ushiftRight, ih]
    unfold bR
    rw [← Nat.shiftRight_add]
    rfl
theorem bR_S (w : Int64) (i : Nat) : bR w i = 256 * bR w (i + 1) + bN w i := by
  have e : bR w (i + 1) = bR w i / 256 := by
    unfold bR
    rw [show 8 * (i + 1) = 8 * i + 8 by omega, Nat.shiftRight_add, Nat.shiftRight_eq_div_pow (w.toBitVec.toNat >>> (8 * i)) 8]
  have e2 : bN w i = bR w i % 256 := rfl
  rw [e, e2]
  omega
theorem bR_8 (w : Int64) : bR w 8 = 0 := by
  unfold bR
  rw [Nat.shiftRight_eq_div_pow]
  exact Nat.div_eq_of_lt w.toBitVec.isLt
theorem i64_0 {z : Int64} : z = 0 ↔ z.toBitVec.toNat = 0 := by
  constructor
  · intro h; rw [h]; rfl
  · intro h
    apply Int64.toBitVec_inj.mp
    apply BitVec.eq_of_toNat_eq
    rw [h]; rfl
theorem cSh_and (w : Int64) (i : Nat) : (cShT w i &&& 255).toBitVec.toNat = bN w i := by
  have e : (cShT w i &&& 255).toBitVec = (cShT w i).toBitVec &&& 255#64 := rfl
  rw [e, b255, cShT_n]
  rfl
theorem cSh_to (w : Int64) (i : Nat) : (cShT w i &&& 255).toInt32 = nI (bN w i) := by
  rw [bTo, b255, cShT_n]
  rfl
theorem cSh_0 (w : Int64) (i : Nat) : cShT w i &&& 255 = 0 ↔ bN w i = 0 := by rw [i64_0, cSh_and]
theorem cSh_z (w : Int64) (i : Nat) : cShT w i = 0 ↔ bR w i = 0 := by rw [i64_0, cShT_n]
theorem nI_z {k : Nat} (h : k < 2 ^ 31) : nI k = 0 ↔ k = 0 := by
  rw [show (0 : Int32) = nI 0 from rfl, nI_eq h (by decide)]
theorem mZe_n (w : Int64) : ∀ n i, i + n = 8 → (mZe w n i = true ↔ bR w i = 0)
  | 0, i, h => by
    have : i = 8 := by omega
    subst this
    exact ⟨fun _ => bR_8 w, fun _ => rfl⟩
  | n + 1, i, h => by
    have ih := mZe_n w n (i + 1) (by omega)
    have hb := bN_lt w i
    have hr := bR_S w i
    have e0 : mByte w i = 0 ↔ bN w i = 0 := by rw [mByte_n w (by omega), nI_z (by omega)]
    unfold mZe
    by_cases c : bN w i = 0
    · rw [if_pos (e0.mpr c), ih]
      omega
    · rw [if_neg (fun z => c (e0.mp z))]
      constructor
      · intro z; cases z
      · intro z; omega
/-- how many signs there are: the class's count, the reference's -/
theorem mBy_n (w : Int64) : ∀ n i, i + n = 8 → cCn w n i = (match mBy w n i with | none => 0 | some j => if mZe w (8 - j) j = true then nI j else 0) ∧ ∀ j, mBy w n i = some j → j ≤ 8
  | 0, i, h => by
    have : i = 8 := by omega
    subst this
    refine ⟨?_, fun j hj => by have : (some 8 : Option Nat) = some j := hj; injection this; omega⟩
    show (if cShT w 8 = 0 then nI 8 else 0) = if mZe w (8 - 8) 8 = true then nI 8 else 0
    rw [if_pos ((cSh_z w 8).mpr (bR_8 w)), if_pos (show mZe w (8 - 8) 8 = true from rfl)]
  | n + 1, i, h => by
    obtain ⟨ih1, ih2⟩ := mBy_n w n (i + 1) (by omega)
    have hb := bN_lt w i
    have e0 : mByte w i = 0 ↔ bN w i = 0 := by rw [mByte_n w (by omega), nI_z (by omega)]
    unfold cCn mBy
    by_cases c : bN w i = 0
    · rw [if_pos (e0.mpr c), if_pos ((cSh_0 w i).mpr c)]
      refine ⟨?_, fun j hj => by injection hj; omega⟩
      dsimp only
      have hz := mZe_n w (8 - i) i (by omega)
      by_cases c2 : bR w i = 0
      · rw [if_pos ((cSh_z w i).mpr c2), if_pos (hz.mpr c2)]
      · rw [if_neg (fun z => c2 ((cSh_z w i).mp z)), if_neg (fun z => c2 (hz.mp z))]
    · rw [if_neg (fun z => c (e0.mp z)), if_neg (fun z => c ((cSh_0 w i).mp z)), cSh_to, mByte_n w (by omega)]
      by_cases c2 : pIn (nI (bN w i)) 33 126
      · rw [if_pos c2, if_pos c2]
        exact ⟨ih1, ih2⟩
      · rw [if_neg c2, if_neg c2]
        exact ⟨rfl, fun j hj => by cases hj⟩
theorem cCount_m (w : Int64) : (cCount w = 0 ∧ mTold w = -2) ∨ ∃ m : Nat, 1 ≤ m ∧ m ≤ 8 ∧ cCount w = nI m ∧ mTold w = nI m := by
  obtain ⟨h1, h2⟩ := mBy_n w 8 0 rfl
  have e : cCount w = cCn w 8 0 := rfl
  rw [e, h1]
  unfold mTold
  cases hb : mBy w 8 0 with
  | none => exact Or.inl ⟨rfl, rfl⟩
  | some j =>
    have hj := h2 j hb
    dsimp only
    by_cases c : mZe w (8 - j) j = true
    · rw [if_pos c, if_pos c]
      by_cases c2 : j = 0
      · subst c2
        exact Or.inl ⟨rfl, if_pos rfl⟩
      · rw [if_neg c2]
        exact Or.inr ⟨j, by omega, hj, rfl, rfl⟩
    · rw [if_neg c, if_neg c]
      exact Or.inl ⟨rfl, rfl⟩
theorem cApP_at (P : Nat → Int32) (n : Nat) (w : Int64) (m : Nat) : ∀ i, i ≤ m → ∀ j, cApP P n w m i j = if n + m - i ≤ j ∧ j < n + m then cBy w (n + m - 1 - j) else P j
  | 0, _, j => by rw [if_neg (by omega)]; rfl
  | i + 1, hi, j => by
    have ih := cApP_at P n w m i (by omega) j
    show upd (cApP P n w m i) (n + m - 1 - i) (cBy w i) j = _
    by_cases c : j = n + m - 1 - i
    · subst c
      rw [upd_s, if_pos (by omega), show n + m - 1 - (n + m - 1 - i) = i by omega]
    · rw [upd_o c, ih]
      by_cases c2 : n + m - i ≤ j ∧ j < n + m
      · rw [if_pos c2, if_pos (by omega)]
      · rw [if_neg c2, if_neg (by omega)]
theorem mPutP_at (P : Nat → Int32) (p : Nat) (w : Int64) (m : Nat) : ∀ i, i ≤ m → ∀ j, mPutP P p w m i j = if p ≤ j ∧ j < p + i then mByte w (m - 1 - (j - p)) else P j
  | 0, _, j => by rw [if_neg (by omega)]; rfl
  | i + 1, hi, j => by
    have ih := mPutP_at P p w m i (by omega) j
    show upd (mPutP P p w m i) (p + i) (mByte w (m - 1 - i)) j = _
    by_cases c : j = p + i
    · subst c
      rw [upd_s, if_pos (by omega), show m - 1 - (p + i - p) = m - 1 - i by omega]
    · rw [upd_o c, ih]
      by_cases c2 : p ≤ j ∧ j < p + i
      · rw [if_pos c2, if_pos (by omega)]
      · rw [if_neg c2, if_neg (by omega)]
theorem cPut_row (P : Nat → Int32) (n : Nat) (w : Int64) (m : Nat) (hm : m ≤ 8) : cApP P n w m m = mPutP P n w m m := by
  funext j
  rw [cApP_at P n w m m (Nat.le_refl _), mPutP_at P n w m m (Nat.le_refl _)]
  by_cases c : n ≤ j ∧ j < n + m
  · rw [if_pos (by omega), if_pos c, cBy_n w (by omega), mByte_n w (by omega), show n + m - 1 - j = m - 1 - (j - n) by omega]
  · rw [if_neg (by omega), if_neg c]
theorem cBy_chr (w : Int64) (i : Nat) : kChr (cBy w i) := (cBy_c w i).1
