theorem kLen9 (i : Nat) : kLen.getD i 0 < 9 := by
  rcases i with _ | _ | _ | _ | _ | _ | i <;> first | decide | exact (show (0 : Nat) < 9 by decide)
theorem kLen99 (i : Nat) : kLen.getD i 0 < 100 := Nat.lt_trans (kLen9 i) (by decide)
theorem kshr0 (i : Nat) : nI (kLen.getD i 0) >>> ((0 : Int32) &&& 31) = nI (kLen.getD i 0) := by
  rcases i with _ | _ | _ | _ | _ | _ | i <;> first | decide | exact (show nI 0 >>> ((0 : Int32) &&& 31) = nI 0 by decide)
theorem kByt_all : ∀ i : Fin 6, ∀ j : Fin 8, j.val < kLen.getD i.val 0 → ((((kByt.getD i.val []).getD j.val 0 &&& 255).toUInt32 % 65536).toInt32 = (kByt.getD i.val []).getD j.val 0 ∧ narrow .char (.int ((kByt.getD i.val []).getD j.val 0)) = .int ((kByt.getD i.val []).getD j.val 0)) := by decide +kernel
theorem kByt_c {i j : Nat} (hi : i < 6) (hj : j < kLen.getD i 0) : (((kByt.getD i []).getD j 0 &&& 255).toUInt32 % 65536).toInt32 = (kByt.getD i []).getD j 0 := (kByt_all ⟨i, hi⟩ ⟨j, by have := kLen9 i; omega⟩ hj).1
theorem kByt_n {i j : Nat} (hi : i < 6) (hj : j < kLen.getD i 0) : narrow .char (.int ((kByt.getD i []).getD j 0)) = .int ((kByt.getD i []).getD j 0) := (kByt_all ⟨i, hi⟩ ⟨j, by have := kLen9 i; omega⟩ hj).2
