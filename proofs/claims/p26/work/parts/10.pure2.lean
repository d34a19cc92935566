/-! what the rest of the mill's methods answer and do -/
theorem kmin_nI {a b : Nat} (ha : a < 2 ^ 31) (hb : b < 2 ^ 31) : kmin (nI a) (nI b) = nI (min a b) := by
  unfold kmin
  by_cases h : b < a
  · rw [if_pos ((nI_ltI hb ha).mpr h), Nat.min_eq_right (by omega)]
  · rw [if_neg (fun z => h ((nI_ltI hb ha).mp z)), Nat.min_eq_left (by omega)]
theorem pIn_lt {x : Int32} {n : Nat} (hn : n < 2 ^ 31) (h : pIn x 0 (nI n - 1)) : ∃ j : Nat, x = nI j ∧ j < n := by
  obtain ⟨h1, h2⟩ := h
  obtain ⟨j, hj, rfl⟩ := nI_of h1
  refine ⟨j, rfl, ?_⟩
  cases n with
  | zero =>
    exfalso
    apply h2
    have e : nI 0 - 1 < 0 := by decide
    rw [Int32.lt_iff_toInt_lt] at e ⊢
    rw [nI_toInt hj]
    have : (0 : Int32).toInt = 0 := by decide
    omega
  | succ k =>
    rw [nI_pred, nI_ltI (by omega) hj] at h2
    omega
def sTo (f : Nat → Int32) : Nat → Int32
  | 0 => 0
  | k + 1 => sTo f k + f k
abbrev kcp (f g : Nat → Int32) (n : Nat) : Nat → Int32 := va_cpy f g 0 0 n
def cCopyG (N M : kN) : kN := sR (sR (sR (sR (sR M 1 (kcp (N 1) (M 1) 6)) 2 (kcp (N 2) (M 2) 6)) 3 (kcp (N 3) (M 3) 6)) 4 (kcp (N 4) (M 4) 6)) 5 (kcp (N 5) (M 5) 6)
def cCopyF (N M : kN) : kN := sR (sR (sR (sR (sR (sR (sR (sR (sM M 19 4 (nI (nF N))) 6 (kcp (N 6) (M 6) (nF N))) 7 (kcp (N 7) (M 7) (nF N))) 8 (kcp (N 8) (M 8) (nF N))) 9 (kcp (N 9) (M 9) (nF N))) 10 (kcp (N 10) (M 10) (nF N))) 11 (kcp (N 11) (M 11) (nF N))) 12 (kcp (N 12) (M 12) (nF N))) 13 (kcp (N 13) (M 13) (nF N))
def cCopyS (N M : kN) : kN := sR (sR (sM M 19 5 (nI (nS N))) 14 (kcp (N 14) (M 14) (nS N))) 15 (kcp (N 15) (M 15) (nS N))
def cCopyY (N M : kN) : kN := sR (sR (sR (sM (sM M 19 6 (nI (nY N))) 19 7 (N 19 7)) 16 (kcp (N 16) (M 16) (nY N))) 17 (kcp (N 17) (M 17) (nY N))) 18 (kcp (N 18) (M 18) (nY N))
def cCopyA (N M : kN) : kN := cCopyY N (cCopyS N (cCopyF N (cCopyG N (sR M 0 (kcp (N 0) (M 0) 7)))))
/-- a mill as another one is: what is alive of it -/
def cCopy (N M : kN) : kN := sM (sM (sM (sM (cCopyA N M) 19 0 (N 19 0)) 19 1 (N 19 1)) 19 2 (N 19 2)) 19 3 (N 19 3)
def cAddF (M : kN) (g t p b : Int32) : Int32 × kN := if M 19 4 < 30 then (M 19 4, sM (sM (sM (sM (sM (sM (sM (sM (sM M 6 (nF M) g) 7 (nF M) t) 8 (nF M) p) 9 (nF M) b) 10 (nF M) t) 11 (nF M) 0) 12 (nF M) 0) 13 (nF M) 0) 19 4 (M 19 4 + 1)) else (-4, M)
def cField (M : kN) (g t p b : Int32) : Int32 × kN := if pIn g 0 5 then (if pIn t 1 300 then (if pIn p 1 100 then (if pIn b (M 19 0) 999 then cAddF M g t p b else (-2, M)) else (-2, M)) else (-2, M)) else (-1, M)
def cQuota (M : kN) (g t : Int32) : Int32 × kN := if pIn g 0 5 then (if pIn t 0 9999 then (M 1 g.toNatClampNeg, sM M 1 g.toNatClampNeg t) else (-2, M)) else (-1, M)
def cLendTo (M : kN) (g o : Nat) (t : Int32) : kN := sM (sM M 1 g (M 1 g - t)) 1 o (upd (M 1) g (M 1 g - t) o + t)
def cLend (M : kN) (g o t : Int32) : Int32 × kN := if pIn g 0 5 then (if pIn o 0 5 then (if t < 1 then (-2, M) else (if g = o then (-2, M) else (if M 1 g.toNatClampNeg < t then (-5, M) else (if M 1 o.toNatClampNeg ≤ 9999 - t then (cLendTo M g.toNatClampNeg o.toNatClampNeg t 1 g.toNatClampNeg, cLendTo M g.toNatClampNeg o.toNatClampNeg t) else (-5, M))))) else (-1, M)) else (-1, M)
def cStop (M : kN) (f l : Int32) : Int32 × kN := if pIn f 0 999 then (if pIn l f 999 then (if M 19 5 < 5 then (M 19 5, sM (sM (sM M 14 (nS M) f) 15 (nS M) l) 19 5 (M 19 5 + 1)) else (-4, M)) else (-2, M)) else (-2, M)
def cDropSTo (M : kN) (k : Nat) : Nat → kN
  | 0 => M
  | j + 1 => sM (sM (cDropSTo M k j) 14 (k + j) (cDropSTo M k j 14 (k + 1 + j))) 15 (k + j) (cDropSTo M k j 15 (k + 1 + j))
theorem cDropSTo_o (M : kN) (d : Nat) {q : Nat} (h14 : q ≠ 14) (h15 : q ≠ 15) : ∀ j, cDropSTo M d j q = M q
  | 0 => rfl
  | j + 1 => by
    show sM (sM (cDropSTo M d j) 14 _ _) 15 _ _ q = _
    simp only [sM, if_neg h14, if_neg h15]
    exact cDropSTo_o M d h14 h15 j
def cDropStop (M : kN) (k : Int32) : Int32 × kN := if pIn k 0 (M 19 5 - 1) then (M 19 5 - 1, sM (cDropSTo M k.toNatClampNeg (nS M - (k.toNatClampNeg + 1))) 19 5 (M 19 5 - 1)) else (-1, M)
def cLoad (M : kN) (p w : Int32) : Int32 := if pIn p 0 (M 19 6 - 1) then (if w = 0 then M 16 p.toNatClampNeg else (if w = 1 then M 17 p.toNatClampNeg else (if w = 2 then M 18 p.toNatClampNeg else -2))) else -1
def cOfField (M : kN) (f w : Int32) : Int32 := if pIn f 0 (M 19 4 - 1) then (if w = 0 then M 6 f.toNatClampNeg else (if w = 1 then M 7 f.toNatClampNeg else (if w = 2 then M 8 f.toNatClampNeg else (if w = 3 then M 9 f.toNatClampNeg else (if w = 4 then cHow M f.toNatClampNeg (M 19 0) else (if w = 5 then M 10 f.toNatClampNeg else (if w = 6 then M 11 f.toNatClampNeg else (if w = 7 then M 12 f.toNatClampNeg else (if w = 8 then M 13 f.toNatClampNeg else (if w = 9 then sPur (M 9 f.toNatClampNeg) (M 8 f.toNatClampNeg) (M 19 0) (M 0 4) else -2)))))))))) else -1
def cBurntTo (M : kN) (g d : Int32) : Nat → Int32
  | 0 => 0
  | k + 1 => if M 6 k = g ∧ cHow M k d = 1 then cBurntTo M g d k + M 10 k else cBurntTo M g d k
def cOfGrower (M : kN) (g w : Int32) : Int32 := if pIn g 0 5 then (if w = 0 then M 1 g.toNatClampNeg else (if w = 1 then M 2 g.toNatClampNeg else (if w = 2 then M 3 g.toNatClampNeg else (if w = 3 then M 4 g.toNatClampNeg else (if w = 4 then M 5 g.toNatClampNeg else (if w = 5 then cBurntTo M g (M 19 0) (nF M) else -2)))))) else -1
def cOfAll (M : kN) (w : Int32) : Int32 := if pIn w 11 17 then M 0 (w.toNatClampNeg - 11) else (if w = 0 then M 19 0 else (if w = 1 then M 19 4 else (if w = 2 then M 19 5 else (if w = 3 then M 19 7 else (if w = 4 then M 19 6 else (if w = 5 then sTo (M 3) 6 else (if w = 6 then M 19 1 else (if w = 7 then sTo (M 4) 6 else (if w = 8 then sTo (M 5) 6 else (if w = 9 then M 19 2 else (if w = 10 then M 19 3 else -2)))))))))))
def cSetTo (M : kN) (h d : Int32) : Nat → Int64
  | 0 => 0
  | k + 1 => if cHow M k d = h then cSetTo M h d k ||| ((1 : Int64) <<< ((nI k).toInt64 &&& 63)) else cSetTo M h d k
