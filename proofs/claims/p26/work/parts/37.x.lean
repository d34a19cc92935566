def cSet (M : kN) (k v : Int32) : Int32 × kN := if pIn k 0 6 then (if pIn v (kLo.getD k.toNatClampNeg 0) (kHi.getD k.toNatClampNeg 0) then (M 0 k.toNatClampNeg, sM M 0 k.toNatClampNeg v) else (-2, M)) else (-2, M)
/-- the pad behind a word -/
def cApp (P : Nat → Int32) (n : Nat) (w : Int64) : Int32 × (Nat → Int32) × Nat := if cCount w = 0 then (-2, P, n) else (if 80 < n + (cCount w).toNatClampNeg then (-4, P, n) else (nI (n + (cCount w).toNatClampNeg), cApP P n w (cCount w).toNatClampNeg (cCount w).toNatClampNeg, n + (cCount w).toNatClampNeg))
