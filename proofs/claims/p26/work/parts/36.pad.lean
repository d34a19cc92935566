/-! the class's pad: its signs P, n of them; its reading stands at a; the values V, vc of them -/
theorem pIn_same {x c : Int32} : pIn x c c ↔ x = c := by
  constructor
  · intro ⟨h1, h2⟩
    exact Int32.le_antisymm (Int32.not_lt.mp h2) (Int32.not_lt.mp h1)
  · rintro rfl
    exact ⟨Int32.lt_irrefl, Int32.lt_irrefl⟩
theorem kcmp0 {x y : Int64} : lg_cmp x y = 0 ↔ x = y := by
  unfold lg_cmp
  constructor
  · intro h
    split at h
    · exact absurd h (by decide)
    · split at h
      · assumption
      · exact absurd h (by decide)
  · rintro rfl
    rw [if_neg Int64.lt_irrefl, if_pos rfl]
abbrev kChr (x : Int32) : Prop := narrow .char (.int x) = .int x ∧ fits .char (.int x) = true
theorem kChr_nar {x : Int32} (h : kChr x) : vp_nar .char x = x := by
  unfold vp_nar
  rw [h.1]
def kpV (V : Nat → Int32) (vc : Nat) (v : Int32) : Nat → Int32 := if vc < 4 then upd V vc v else V
def kpC (vc : Nat) : Nat := if vc < 4 then vc + 1 else vc
theorem kpC_le {vc : Nat} (h : vc ≤ 4) : kpC vc ≤ 4 := by
  unfold kpC
  split <;> omega
abbrev cX : Type := Bool × Nat × (Nat → Int32) × Nat
def cDg (P : Nat → Int32) (n a : Nat) (V : Nat → Int32) (vc : Nat) : cX := if pAt P n a 48 53 then (true, a + 1, kpV V vc (P a - 48), kpC vc) else (false, a, V, vc)
def cSn (P : Nat → Int32) (n : Nat) (c : Int32) (a : Nat) (V : Nat → Int32) (vc : Nat) : cX := (decide (pAt P n a c c), pSg P n a c c, V, vc)
/-- one more digit: the value, how many digits, where -/
def cNuS (P : Nat → Int32) (n : Nat) (x : Int32 × Nat × Nat) : Int32 × Nat × Nat := if x.2.1 < 4 ∧ pAt P n x.2.2 48 57 ∧ ¬ (0 < x.2.1 ∧ x.1 = 0) then (x.1 * 10 + P x.2.2 - 48, x.2.1 + 1, x.2.2 + 1) else x
def cNuT (P : Nat → Int32) (n a : Nat) : Nat → Int32 × Nat × Nat
  | 0 => (0, 0, a)
  | i + 1 => cNuS P n (cNuT P n a i)
theorem cNuT_stop {P : Nat → Int32} {n a i : Nat} (h : ¬ ((cNuT P n a i).2.1 < 4 ∧ pAt P n (cNuT P n a i).2.2 48 57 ∧ ¬ (0 < (cNuT P n a i).2.1 ∧ (cNuT P n a i).1 = 0))) : ∀ j, cNuT P n a (i + j) = cNuT P n a i
  | 0 => rfl
  | j + 1 => by
    have ih := cNuT_stop h j
    show cNuS P n (cNuT P n a (i + j)) = _
    rw [ih]
    exact if_neg h
theorem cNuT_le {P : Nat → Int32} {n a : Nat} (h : a ≤ n) : ∀ i, (cNuT P n a i).2.2 ≤ n
  | 0 => h
  | i + 1 => by
    have ih := cNuT_le (P := P) h i
    show (cNuS P n (cNuT P n a i)).2.2 ≤ n
    unfold cNuS
    split
    · rename_i c; have := c.2.1.1; dsimp only; omega
    · exact ih
def cNm (P : Nat → Int32) (n a : Nat) (V : Nat → Int32) (vc : Nat) : cX := if pAt P n a 48 57 then (true, (cNuT P n a 4).2.2, kpV V vc (cNuT P n a 4).1, kpC vc) else (false, a, V, vc)
def cPart (P : Nat → Int32) (n : Nat) (ch : Int32) (a : Nat) (V : Nat → Int32) (vc : Nat) : cX := if ch = 68 then cDg P n a V vc else (if ch = 78 then cNm P n a V vc else cSn P n ch a V vc)
theorem cPart_le {P : Nat → Int32} {n a vc : Nat} {ch : Int32} {V : Nat → Int32} (h : a ≤ n) (hv : vc ≤ 4) : (cPart P n ch a V vc).2.1 ≤ n ∧ (cPart P n ch a V vc).2.2.2 ≤ 4 := by
  unfold cPart
  split
  · unfold cDg
    split
    · rename_i c; exact ⟨by have := c.1; dsimp only; omega, kpC_le hv⟩
    · exact ⟨h, hv⟩
  · split
    · unfold cNm
      split
      · exact ⟨cNuT_le h 4, kpC_le hv⟩
      · exact ⟨h, hv⟩
    · exact ⟨(pSg_le h).1, hv⟩
def cFx (kd : Int32) : Nat := if kd = 100 then 4 else (if kd = 102 then 0 else (if kd = 108 then 2 else (if kd = 113 then 1 else (if kd = 115 then 3 else 5))))
theorem cFx_lt (kd : Int32) : cFx kd < 6 := by
  unfold cFx
  repeat' split
  all_goals decide
/-- k parts of the i-th form -/
def cParts (P : Nat → Int32) (n i a : Nat) (V : Nat → Int32) : Nat → cX
  | 0 => (true, a, V, 0)
  | k + 1 => if (cParts P n i a V k).1 = true then cPart P n ((kByt.getD i []).getD k 0) (cParts P n i a V k).2.1 (cParts P n i a V k).2.2.1 (cParts P n i a V k).2.2.2 else cParts P n i a V k
theorem cParts_no {P : Nat → Int32} {n i a : Nat} {V : Nat → Int32} {k : Nat} (h : ¬ (cParts P n i a V k).1 = true) : ∀ j, cParts P n i a V (k + j) = cParts P n i a V k
  | 0 => rfl
  | j + 1 => by
    have ih := cParts_no h j
    show (if (cParts P n i a V (k + j)).1 = true then cPart P n ((kByt.getD i []).getD (k + j) 0) (cParts P n i a V (k + j)).2.1 (cParts P n i a V (k + j)).2.2.1 (cParts P n i a V (k + j)).2.2.2 else cParts P n i a V (k + j)) = _
    rw [ih, if_neg h]
/-- the reading's numbers: where, the sign that began the order, the values, how many -/
abbrev kQ : Type := Nat × Int32 × (Nat → Int32) × Nat
def cOrd (P : Nat → Int32) (n : Nat) (q : kQ) : Bool × kQ :=
  if n ≤ q.1 then (false, q)
  else (if kLen.getD (cFx (P q.1)) 0 = 0 then (false, q.1, P q.1, q.2.2.1, 0)
  else ((cParts P n (cFx (P q.1)) q.1 q.2.2.1 (kLen.getD (cFx (P q.1)) 0)).1, (cParts P n (cFx (P q.1)) q.1 q.2.2.1 (kLen.getD (cFx (P q.1)) 0)).2.1, P q.1, (cParts P n (cFx (P q.1)) q.1 q.2.2.1 (kLen.getD (cFx (P q.1)) 0)).2.2.1, (cParts P n (cFx (P q.1)) q.1 q.2.2.1 (kLen.getD (cFx (P q.1)) 0)).2.2.2))
theorem cParts_le {P : Nat → Int32} {n i a : Nat} {V : Nat → Int32} (h : a ≤ n) : ∀ k, (cParts P n i a V k).2.1 ≤ n ∧ (cParts P n i a V k).2.2.2 ≤ 4
  | 0 => ⟨h, Nat.zero_le _⟩
  | k + 1 => by
    have ih := cParts_le (P := P) (i := i) (V := V) h k
    show (if _ then _ else _ : cX).2.1 ≤ n ∧ (if _ then _ else _ : cX).2.2.2 ≤ 4
    split
    · exact cPart_le ih.1 ih.2
    · exact ih
theorem cOrd_le {P : Nat → Int32} {n : Nat} {q : kQ} (h : q.1 ≤ n) (hv : q.2.2.2 ≤ 4) : (cOrd P n q).2.1 ≤ n ∧ (cOrd P n q).2.2.2.2 ≤ 4 := by
  unfold cOrd
  split
  · exact ⟨h, hv⟩
  · split
    · exact ⟨h, Nat.zero_le _⟩
    · exact cParts_le h _
/-- the pad's fault: f orders more -/
def cFa (P : Nat → Int32) (n : Nat) : Nat → kQ → Int32 × kQ
  | 0, q => (nI q.1, q)
  | f + 1, q => if (cOrd P n q).1 = true then (if (cOrd P n q).2.1 = n then (-6, (cOrd P n q).2) else (if pAt P n (cOrd P n q).2.1 59 59 then cFa P n f ((cOrd P n q).2.1 + 1, (cOrd P n q).2.2) else (nI (cOrd P n q).2.1, (cOrd P n q).2))) else (nI (cOrd P n q).2.1, (cOrd P n q).2)
theorem cFa_no {P : Nat → Int32} {n f : Nat} {q : kQ} (h : ¬ (cOrd P n q).1 = true) : cFa P n (f + 1) q = (nI (cOrd P n q).2.1, (cOrd P n q).2) := if_neg h
theorem cFa_ok {P : Nat → Int32} {n f : Nat} {q : kQ} (h : (cOrd P n q).1 = true) (h2 : (cOrd P n q).2.1 = n) : cFa P n (f + 1) q = (-6, (cOrd P n q).2) := (if_pos h).trans (if_pos h2)
theorem cFa_go {P : Nat → Int32} {n f : Nat} {q : kQ} (h : (cOrd P n q).1 = true) (h2 : ¬ (cOrd P n q).2.1 = n) (h3 : pAt P n (cOrd P n q).2.1 59 59) : cFa P n (f + 1) q = cFa P n f ((cOrd P n q).2.1 + 1, (cOrd P n q).2.2) := (if_pos h).trans ((if_neg h2).trans (if_pos h3))
theorem cFa_st {P : Nat → Int32} {n f : Nat} {q : kQ} (h : (cOrd P n q).1 = true) (h2 : ¬ (cOrd P n q).2.1 = n) (h3 : ¬ pAt P n (cOrd P n q).2.1 59 59) : cFa P n (f + 1) q = (nI (cOrd P n q).2.1, (cOrd P n q).2) := (if_pos h).trans ((if_neg h2).trans (if_neg h3))
/-- a word, i signs of it gone -/
def cShT (w : Int64) : Nat → Int64
  | 0 => w
  | i + 1 => ((cShT w i).toUInt64 >>> ((8 : Int32).toInt64.toUInt64 &&& Int64.toUInt64 63)).toInt64
def cCn (w : Int64) : Nat → Nat → Int32
  | 0, i => if cShT w i = 0 then nI i else 0
  | n + 1, i => if cShT w i &&& 255 = 0 then (if cShT w i = 0 then nI i else 0) else (if pIn (cShT w i &&& 255).toInt32 33 126 then cCn w n (i + 1) else 0)
def cCount (w : Int64) : Int32 := cCn w 8 0
theorem cCn_b {w : Int64} : ∀ (n i : Nat), cCn w n i = 0 ∨ ∃ m : Nat, cCn w n i = nI m ∧ m ≤ i + n
  | 0, i => by
    unfold cCn
    split
    · exact Or.inr ⟨i, rfl, by omega⟩
    · exact Or.inl rfl
  | n + 1, i => by
    unfold cCn
    split
    · split
      · exact Or.inr ⟨i, rfl, by omega⟩
      · exact Or.inl rfl
    · split
      · rcases cCn_b (w := w) n (i + 1) with h | ⟨m, h, h2⟩
        · exact Or.inl h
        · exact Or.inr ⟨m, h, by omega⟩
      · exact Or.inl rfl
theorem cCount_b {w : Int64} (h : ¬ cCount w = 0) : ∃ m : Nat, cCount w = nI m ∧ 1 ≤ m ∧ m ≤ 8 := by
  rcases cCn_b (w := w) 8 0 with h1 | ⟨m, h1, h2⟩
  · exact absurd h1 h
  · refine ⟨m, h1, ?_, by omega⟩
    rcases m with _ | m
    · exact absurd h1 h
    · omega
def cBy (w : Int64) (i : Nat) : Int32 := (((w.toUInt64 >>> ((nI (8 * i)).toInt64.toUInt64 &&& Int64.toUInt64 63)).toInt64 &&& 255).toInt32.toUInt32 % 65536).toInt32
def cApP (P : Nat → Int32) (n : Nat) (w : Int64) (m : Nat) : Nat → (Nat → Int32)
  | 0 => P
  | i + 1 => upd (cApP P n w m i) (n + m - 1 - i) (cBy w i)
theorem kAnd255 (z : Int64) : ∃ k : Nat, k < 256 ∧ (z &&& 255).toInt32 = nI k := by
  have e1 : (z.toBitVec &&& 255#64).toNat < 256 := by
    rw [BitVec.toNat_and]
    exact Nat.and_lt_two_pow (n := 8) _ (by decide)
  refine ⟨(z.toBitVec &&& 255#64).toNat, e1, ?_⟩
  apply Int32.toBitVec_inj.mp
  apply BitVec.eq_of_toNat_eq
  have e2 : (z &&& 255).toInt32.toBitVec = (z.toBitVec &&& 255#64).signExtend 32 := rfl
  rw [e2, BitVec.signExtend_eq_setWidth_of_le _ (by decide), BitVec.toNat_setWidth]
  have e3 : (nI (z.toBitVec &&& 255#64).toNat).toBitVec = BitVec.ofNat 32 (z.toBitVec &&& 255#64).toNat := rfl
  rw [e3, BitVec.toNat_ofNat]
theorem kChr_all : ∀ k : Fin 256, kChr (nI k.val) ∧ ((nI k.val).toUInt32 % 65536).toInt32 = nI k.val := by decide +kernel
theorem cBy_c (w : Int64) (i : Nat) : kChr (cBy w i) ∧ cBy w i = ((w.toUInt64 >>> ((nI (8 * i)).toInt64.toUInt64 &&& Int64.toUInt64 63)).toInt64 &&& 255).toInt32 := by
  obtain ⟨k, h1, h2⟩ := kAnd255 ((w.toUInt64 >>> ((nI (8 * i)).toInt64.toUInt64 &&& Int64.toUInt64 63)).toInt64)
  have h3 := kChr_all ⟨k, h1⟩
  unfold cBy
  rw [h2, h3.2]
  exact ⟨h3.1, rfl⟩
