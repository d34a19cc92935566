/-! a block of the class's world as a callee's -/
theorem kJ_w {D : va_G} {A : Nat → Prop} {Y : Nat → ClassId} {bs : List va_W} {F : kFm} {wc : va_W} (i : Nat) (h : bs[i]? = some wc) : kJ D A (kw Y bs F) wc (fun w => kw Y (bs.set i w) F) := by
  have hl := (List.getElem?_eq_some_iff.mp h).1
  have J := kJ_b1 (D := D) (A := A) (bs := bs ++ (List.range 9).map (kOb Y F)) (wc := wc) i (by rw [List.getElem?_append_left hl]; exact h)
  have e : (fun w : va_W => ((bs ++ (List.range 9).map (kOb Y F)).set i w).flatten) = fun w => kw Y (bs.set i w) F := by
    funext w
    rw [List.set_append_left _ _ hl]
    rfl
  rw [e] at J
  exact J
theorem kJ_w2 {D : va_G} {A : Nat → Prop} {Y : Nat → ClassId} {bs : List va_W} {F : kFm} {a b : Nat → Nat} {M N : kN} (i j : Nat) (h1 : bs[i]? = some (wM Y a M)) (h2 : bs[j]? = some (wM Y b N)) (hij : i ≠ j) : kJ D A (kw Y bs F) (wM Y a M ++ wM Y b N) (fun w => kw Y ((bs.set i (w.take 24)).set j (w.drop 24)) F) := by
  have l1 := (List.getElem?_eq_some_iff.mp h1).1
  have l2 := (List.getElem?_eq_some_iff.mp h2).1
  have J := kJ_b2' (D := D) (A := A) (bs := bs ++ (List.range 9).map (kOb Y F)) i j 24 (by rw [List.getElem?_append_left l1]; exact h1) (by rw [List.getElem?_append_left l2]; exact h2) hij (wM_len Y a M)
  have e : (fun w : va_W => (((bs ++ (List.range 9).map (kOb Y F)).set i (w.take 24)).set j (w.drop 24)).flatten) = fun w => kw Y ((bs.set i (w.take 24)).set j (w.drop 24)) F := by
    funext w
    rw [List.set_append_left _ _ l1, List.set_append_left _ _ (by rw [List.length_set]; exact l2)]
    rfl
  rw [e] at J
  exact J
theorem kw_w2 {Y : Nat → ClassId} {bs : List va_W} {F : kFm} {a b : Nat → Nat} {M u : kN} {i j : Nat} : kw Y ((bs.set i ((wM Y a M ++ wM Y b u).take 24)).set j ((wM Y a M ++ wM Y b u).drop 24)) F = kw Y ((bs.set i (wM Y a M)).set j (wM Y b u)) F := by
  rw [List.take_left' (wM_len Y a M), List.drop_left' (wM_len Y a M)]
theorem kBw {base : Nat} {Y : Nat → ClassId} {bs : List va_W} {F : kFm} {b : va_W} (h : ∀ c ∈ (kw Y bs F).map (·.1), base ≤ c) (i : Nat) (hi : bs[i]? = some b) : ∀ c ∈ b.map (·.1), base ≤ c := by
  intro c hc
  obtain ⟨q, hq, rfl⟩ := List.mem_map.mp hc
  refine h q.1 (List.mem_map.mpr ⟨q, ?_, rfl⟩)
  exact List.mem_flatten.mpr ⟨b, List.mem_append_left _ (List.mem_of_getElem? hi), hq⟩
def k24 (a : Nat → Nat) : Nat → Nat := fun i => if i < 24 then a i else a 0
theorem k24_B {base : Nat} {Y : Nat → ClassId} {a : Nat → Nat} {M : kN} (h : ∀ c ∈ (wM Y a M).map (·.1), base ≤ c) : ∀ i, base ≤ k24 a i := by
  intro i
  have hm : ∀ j, j < 24 → base ≤ a j := by
    intro j hj
    have e : ((wM Y a M).map (·.1))[j]? = some (a j) := by
      rcases (show j = 0 ∨ j = 1 ∨ j = 2 ∨ j = 3 ∨ j = 4 ∨ j = 5 ∨ j = 6 ∨ j = 7 ∨ j = 8 ∨ j = 9 ∨ j = 10 ∨ j = 11 ∨ j = 12 ∨ j = 13 ∨ j = 14 ∨ j = 15 ∨ j = 16 ∨ j = 17 ∨ j = 18 ∨ j = 19 ∨ j = 20 ∨ j = 21 ∨ j = 22 ∨ j = 23 by omega) with rfl | rfl | rfl | rfl | rfl | rfl | rfl | rfl | rfl | rfl | rfl | rfl | rfl | rfl | rfl | rfl | rfl | rfl | rfl | rfl | rfl | rfl | rfl | rfl <;> rfl
    exact h _ (List.mem_of_getElem? e)
  unfold k24
  split
  · exact hm i (by assumption)
  · exact hm 0 (by omega)
def k3 (d : Nat → Nat) : Nat → Nat := fun i => if i < 3 then d i else d 0
theorem k3_B {base : Nat} {Y : Nat → ClassId} {d : Nat → Nat} {P : Nat → Int32} {n a : Nat} {kd : Int32} {V : Nat → Int32} {vc : Nat} (h : ∀ c ∈ (wP Y d P n a kd V vc).map (·.1), base ≤ c) : ∀ i, base ≤ k3 d i := by
  intro i
  have hm : ∀ j, j < 3 → base ≤ d j := by
    intro j hj
    have e : ((wP Y d P n a kd V vc).map (·.1))[j]? = some (d j) := by
      rcases (show j = 0 ∨ j = 1 ∨ j = 2 by omega) with rfl | rfl | rfl <;> rfl
    exact h _ (List.mem_of_getElem? e)
  unfold k3
  split
  · exact hm i (by assumption)
  · exact hm 0 (by omega)
theorem c_X3_changeSetting2 (l : Launch) (D : va_G) (Y : Nat → ClassId) (base : Nat) (ad av a : Nat → Nat) (M : kN) (k v : Int32) (hB : ∀ c ∈ (wM Y a M).map (·.1), base ≤ c) : kM l yX3_changeSetting wX3_changeSetting rX3_changeSetting D Y (wM Y a M) [.ref (a 0), .int k, .int v] (kX base ad av) (kQi D (fun r u => r = (cSet M k v).1 ∧ u = (cSet M k v).2) (fun u => wM Y a u)) := c_X3_changeSetting l D Y base ad av (k24 a) M k v (k24_B hB)
theorem cCopy_I {N M : kN} (h : cI N) : cI (cCopy N M) := by
  obtain ⟨r0, -⟩ := cCopy_r N M
  obtain ⟨f0, -⟩ := cCopy_f N M
  obtain ⟨-, -, y2, -⟩ := cCopy_y N M
  obtain ⟨-, -, -, -, n4, n5, n6, -⟩ := cCopy_n N M
  have h30 := h.f30
  have h5 := h.s5
  have h400 := h.y400
  have eF : nF (cCopy N M) = nF N := by
    show (cCopy N M 19 4).toNatClampNeg = _
    rw [n4, nI_clamp (by omega)]
  have eS : nS (cCopy N M) = nS N := by
    show (cCopy N M 19 5).toNatClampNeg = _
    rw [n5, nI_clamp (by omega)]
  have eY : nY (cCopy N M) = nY N := by
    show (cCopy N M 19 6).toNatClampNeg = _
    rw [n6, nI_clamp (by omega)]
  have e0 : cCopy N M 0 0 = N 0 0 := by rw [r0, kcp_at, if_pos (by omega)]
  have eT : nT (cCopy N M) = nT N := by unfold nT; rw [e0]
  refine ⟨?_, ?_, ?_, ?_, ?_, ?_⟩
  · rw [eF, n4]; exact ⟨rfl, h30⟩
  · rw [eS, n5]; exact ⟨rfl, h5⟩
  · rw [eY, n6]; exact ⟨rfl, h400⟩
  · rw [eT, e0]; exact h.2.2.2.1
  · intro f hf
    rw [eF] at hf
    have e : cCopy N M 6 f = N 6 f := by rw [f0, kcp_at, if_pos hf]
    unfold gr
    rw [e]
    exact h.g hf
  · intro k hk
    rw [eY] at hk
    have e : cCopy N M 16 k = N 16 k := by rw [y2, kcp_at, if_pos hk]
    unfold fi
    rw [e, eF]
    exact h.fk hk
theorem kperm7 {α : Type} (o h st sl : α) (A pd : List α) : (o :: (A ++ (h :: st :: sl :: pd))).Perm (o :: h :: sl :: st :: (A ++ pd)) := by
  refine List.Perm.cons o ?_
  refine (List.perm_middle (a := h) (l₁ := A) (l₂ := st :: sl :: pd)).trans (List.Perm.cons h ?_)
  refine (List.perm_middle (a := st) (l₁ := A) (l₂ := sl :: pd)).trans ?_
  exact (List.Perm.cons st (List.perm_middle (a := sl) (l₁ := A) (l₂ := pd))).trans (List.Perm.swap sl st _)
/-- what the class's calls do to its cells -/
def cSaveP (M : kN) (F : kFm) (q r : Int32) (u : kFm) : Prop := if pIn q 0 1 then (r = M 19 4 ∧ kPrep M F (7 + q.toNatClampNeg) u) else (r = -2 ∧ u = F)
def cRestP (M : kN) (F : kFm) (o z : Nat) (q r : Int32) (u : kN × kFm × Nat × Nat) : Prop := if pIn q 0 1 then (match F (7 + q.toNatClampNeg) with
  | none => r = -5 ∧ u = (M, F, o, z)
  | some x => r = cCopy x.2 M 19 4 ∧ kSt M F o z (cCopy x.2 M 19 4) (cCopy x.2 M) u) else (r = -2 ∧ u = (M, F, o, z))
def cUndoP (M : kN) (F : kFm) (o z : Nat) (r : Int32) (u : kN × Nat) : Prop := if z = 0 then (r = -5 ∧ u = (M, z)) else (r = nI (z - 1) ∧ u.2 = z - 1 ∧ ∃ (α : Nat → Nat) (X : kN), F ((o + (z - 1)) % 7) = some (α, X) ∧ u.1 = cCopy X M)
/-- the reference as it is made -/
def rQ : Nat → (Nat → Int32)
  | 0 => upd (upd (upd (upd (upd (upd (upd (fun _ => 0) 3 4) 4 10) 5 60) 6 100) 7 8) 8 5) 9 30
  | g + 1 => upd (rQ g) (10 + g) 100
def rNew : kN := fun q => if q = 0 then rQ 6 else fun _ => 0
