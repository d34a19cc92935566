/-! what the class's methods answer and do, over a mill's numbers -/
abbrev pIn (v lo hi : Int32) : Prop := ¬ v < lo ∧ ¬ hi < v
def nF (M : kN) : Nat := (M 19 4).toNatClampNeg
def nS (M : kN) : Nat := (M 19 5).toNatClampNeg
def nY (M : kN) : Nat := (M 19 6).toNatClampNeg
def gr (M : kN) (f : Nat) : Nat := (M 6 f).toNatClampNeg
def fi (M : kN) (k : Nat) : Nat := (M 16 k).toNatClampNeg
/-- what keeps the class's indices within its rows -/
def cI (M : kN) : Prop := M 19 4 = nI (nF M) ∧ nF M ≤ 30 ∧ M 19 5 = nI (nS M) ∧ nS M ≤ 5 ∧ M 19 6 = nI (nY M) ∧ nY M ≤ 400 ∧ (∀ f, f < nF M → M 6 f = nI (gr M f) ∧ gr M f < 6) ∧ ∀ k, k < nY M → M 16 k = nI (fi M k) ∧ fi M k < nF M
def sHow (now burnt on gone : Int32) : Int32 := if burnt ≤ now then (if on ≤ 0 then (if gone ≤ 0 then 2 else 3) else 1) else 0
def sPur (burnt purity day loss : Int32) : Int32 := kmax 0 (purity - loss * kmax 0 (day - burnt))
abbrev pAhead (bf bb qf qb : Int32) : Prop := (bf = bb ∧ qb < qf) ∨ (¬ bf = bb ∧ bf < bb)
def cHow (M : kN) (f : Nat) (d : Int32) : Int32 := sHow d (M 9 f) (M 10 f) (M 13 f)
def cRoom (M : kN) : Int32 := if 400 ≤ M 19 6 then 0 else M 0 3 - M 19 7
def cLoseCane (M : kN) (f : Nat) : kN := sM (sM M 13 f (M 13 f + M 10 f)) 10 f 0
def cLoseStep (M : kN) (f : Nat) : kN := if M 19 0 - M 9 f ≤ M 0 5 then M else sM (cLoseCane M f) 4 (gr M f) (M 4 (gr M f) + M 10 f)
def cLoseTo (M : kN) : Nat → kN
  | 0 => M
  | k + 1 => cLoseStep (cLoseTo M k) k
def cLose (M : kN) : kN := cLoseTo M (nF M)
abbrev pCan (M : kN) (f : Nat) : Prop := cHow M f (M 19 0) = 1 ∧ ¬ M 1 (gr M f) ≤ 0
abbrev pAheadM (M : kN) (f b : Nat) : Prop := pAhead (M 9 f) (M 9 b) (M 1 (gr M f)) (M 1 (gr M b))
/-- the best of the first fields: none, or one -/
def cBest (M : kN) : Nat → Option Nat
  | 0 => none
  | k + 1 => if pCan M k then (match cBest M k with | none => some k | some b => if pAheadM M k b then some k else some b) else cBest M k
def oI : Option Nat → Int32
  | none => -6
  | some k => nI k
def cNextO (M : kN) : Option Nat := if cRoom M ≤ 0 then none else cBest M (nF M)
