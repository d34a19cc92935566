/-! worlds as blocks; what is made; rows of references -/
theorem kP_perm {D : va_G} {ws ws' : va_W} {H : Heap} (h : ws.Perm ws') (hP : va_P D vwCl ws H) : va_P D vwCl ws' H := fun k q hq => by
  obtain ⟨i, hi⟩ := List.getElem?_of_mem (h.mem_iff.mpr (List.mem_of_getElem? hq))
  exact hP i q hi
theorem kD_iff {A : Nat → Prop} {ws : va_W} : va_D A ws ↔ (ws.map (·.1)).Nodup ∧ ∀ q ∈ ws, A q.1 := by
  constructor
  · intro h
    refine ⟨?_, fun q hq => ?_⟩
    · refine List.pairwise_iff_getElem.mpr (fun i j hi hj hij e => ?_)
      rw [List.length_map] at hi hj
      rw [List.getElem_map, List.getElem_map] at e
      have := h.1 i j ws[i] ws[j] (List.getElem?_eq_getElem hi) (List.getElem?_eq_getElem hj) e
      omega
    · obtain ⟨i, hi⟩ := List.getElem?_of_mem hq
      exact h.2 i q hi
  · rintro ⟨h1, h2⟩
    refine ⟨fun i j p q hi hj e => ?_, fun k q hk => h2 q (List.mem_of_getElem? hk)⟩
    obtain ⟨li, ei⟩ := List.getElem?_eq_some_iff.mp hi
    obtain ⟨lj, ej⟩ := List.getElem?_eq_some_iff.mp hj
    have hp := List.pairwise_iff_getElem.mp h1
    rcases Nat.lt_trichotomy i j with c | c | c
    · exact absurd (by rw [List.getElem_map, List.getElem_map, ei, ej]; exact e) (hp i j (by rw [List.length_map]; exact li) (by rw [List.length_map]; exact lj) c)
    · exact c
    · exact absurd (by rw [List.getElem_map, List.getElem_map, ei, ej]; exact e.symm) (hp j i (by rw [List.length_map]; exact lj) (by rw [List.length_map]; exact li) c)
theorem kD_perm {A : Nat → Prop} {ws ws' : va_W} (h : ws.Perm ws') (hD : va_D A ws) : va_D A ws' := by
  obtain ⟨h1, h2⟩ := kD_iff.mp hD
  exact kD_iff.mpr ⟨(h.map _).nodup_iff.mp h1, fun q hq => h2 q (h.mem_iff.mpr hq)⟩
theorem kpick : ∀ (bs : List va_W) (i : Nat) (b : va_W), bs[i]? = some b → bs.flatten.Perm (b ++ (bs.set i []).flatten)
  | [], i, b, h => by simp at h
  | b0 :: bs, 0, b, h => by
    have : b0 = b := Option.some.inj h
    subst this
    exact List.Perm.refl _
  | b0 :: bs, i + 1, b, h => by
    have ih := kpick bs i b h
    exact (ih.append_left b0).trans (List.perm_append_comm_assoc b0 b _)
theorem kpick' {bs : List va_W} {i : Nat} {b b' : va_W} (h : bs[i]? = some b) : (b' ++ (bs.set i []).flatten).Perm (bs.set i b').flatten := by
  have hl := (List.getElem?_eq_some_iff.mp h).1
  have := kpick (bs.set i b') i b' (by rw [List.getElem?_set_self hl])
  rw [List.set_set] at this
  exact this.symm
theorem kJ_p {D : va_G} {A : Nat → Prop} {ws wc r : va_W} {f : va_W → va_W} (hp : ws.Perm (wc ++ r)) (hf : ∀ w1 : va_W, w1.map (·.1) = wc.map (·.1) → (w1 ++ r).Perm (f w1)) : kJ D A ws wc f := by
  intro H hP hD
  obtain ⟨h1, h2⟩ := kJ_l (D := D) (A := A) (wc := wc) (b := r) H (kP_perm hp hP) (kD_perm hp hD)
  refine ⟨h1, fun w1 H1 ha hP1 hk => ?_⟩
  obtain ⟨h3, h4⟩ := h2 w1 H1 ha hP1 hk
  exact ⟨kP_perm (hf w1 ha) h3, kD_perm (hf w1 ha) h4⟩
theorem kJ_b1 {D : va_G} {A : Nat → Prop} {bs : List va_W} {wc : va_W} (i : Nat) (h : bs[i]? = some wc) : kJ D A bs.flatten wc (fun w => (bs.set i w).flatten) := kJ_p (kpick bs i wc h) (fun _ _ => kpick' h)
theorem kJ_b2 {D : va_G} {A : Nat → Prop} {bs : List va_W} {w1 w2 : va_W} (i j : Nat) (h1 : bs[i]? = some w1) (h2 : bs[j]? = some w2) (hij : i ≠ j) (g : va_W → List va_W) (hg : ∀ u v : va_W, u.map (·.1) = w1.map (·.1) → v.map (·.1) = w2.map (·.1) → g (u ++ v) = (bs.set i u).set j v) : kJ D A bs.flatten (w1 ++ w2) (fun w => (g w).flatten) := by
  have h2' : (bs.set i [])[j]? = some w2 := by rw [List.getElem?_set_ne hij]; exact h2
  refine kJ_p (r := ((bs.set i []).set j []).flatten) ?_ (fun w hw => ?_)
  · rw [List.append_assoc]
    exact (kpick bs i w1 h1).trans ((kpick (bs.set i []) j w2 h2').append_left w1)
  · obtain ⟨u, v, rfl, hu, hv⟩ : ∃ u v : va_W, w = u ++ v ∧ u.map (·.1) = w1.map (·.1) ∧ v.map (·.1) = w2.map (·.1) := by
      rw [List.map_append] at hw
      obtain ⟨u, v, h3, h4, h5⟩ := List.map_eq_append_iff.mp hw
      exact ⟨u, v, h3, h4, h5⟩
    rw [hg u v hu hv, List.append_assoc]
    have e : (bs.set i u).set j [] = (bs.set j []).set i u := by rw [List.set_comm _ _ hij]
    have k2 := kpick' (bs := bs.set i u) (i := j) (b := w2) (b' := v) (by rw [List.getElem?_set_ne hij]; exact h2)
    have k1 := kpick' (bs := bs.set j []) (i := i) (b := w1) (b' := u) (by rw [List.getElem?_set_ne (Ne.symm hij)]; exact h1)
    have e2 : (bs.set i []).set j [] = (bs.set j []).set i [] := by rw [List.set_comm _ _ hij]
    rw [e2]
    refine (List.perm_append_comm_assoc u v _).trans ?_
    refine List.Perm.trans (k1.append_left v) ?_
    rw [← e]
    exact k2
/-- a callee that makes cells -/
def kJn (D : va_G) (A : Nat → Prop) (ws wc : va_W) (f : va_W → va_W) : Prop := ∀ H : Heap, (∀ q : Nat, H.size ≤ q → A q) → va_P D vwCl ws H → va_D A ws → (va_P D vwCl wc H ∧ va_D A wc) ∧ ∀ (w1 : va_W) (H1 : Heap), va_P D vwCl w1 H1 → va_D (va_A wc H.size) w1 → (∀ q : Nat, q < H.size → ¬ va_A wc H.size q → H1[q]? = H[q]?) → va_P D vwCl (f w1) H1 ∧ va_D A (f w1)
theorem kJn_all {D : va_G} {A : Nat → Prop} {ws : va_W} : kJn D A ws ws (fun w => w) := fun H hA hP hD => ⟨⟨hP, hD⟩, fun w1 H1 hP1 hD1 hk => ⟨hP1, hD1.1, fun k q hq => by
  rcases hD1.2 k q hq with ⟨i, e, h⟩ | h
  · exact hD.2 i (q.1, e) h
  · exact hA _ h⟩⟩
theorem kJn_r {D : va_G} {A : Nat → Prop} {b wc : va_W} : kJn D A (b ++ wc) wc (fun w => b ++ w) := by
  intro H hA hP hD
  have hPb := kP_l hP
  refine ⟨⟨kP_r hP, kD_r hD⟩, fun w1 H1 hP1 hD1 hk => ⟨va_P.app (kP_stay (A := A) (a := wc) hPb (fun i j p q hi hj e => kD_apart hD j i q p hj hi e.symm) hk) hP1, ?_⟩⟩
  have hw : ∀ q ∈ w1, A q.1 ∧ ∀ x ∈ b, x.1 ≠ q.1 := by
    intro q hq
    obtain ⟨k, hk1⟩ := List.getElem?_of_mem hq
    rcases hD1.2 k q hk1 with ⟨i, e, h⟩ | h
    · refine ⟨(kD_r hD).2 i (q.1, e) h, fun x hx => ?_⟩
      obtain ⟨j, hj⟩ := List.getElem?_of_mem hx
      exact kD_apart hD j i x (q.1, e) hj h
    · refine ⟨hA _ h, fun x hx e => ?_⟩
      obtain ⟨j, hj⟩ := List.getElem?_of_mem hx
      have := (hPb j x hj).lt
      omega
  obtain ⟨d1, d2⟩ := kD_iff.mp (kD_l hD)
  obtain ⟨d3, -⟩ := kD_iff.mp hD1
  refine kD_iff.mpr ⟨?_, fun q hq => ?_⟩
  · rw [List.map_append]
    refine List.nodup_append.mpr ⟨d1, d3, fun x hx y hy e => ?_⟩
    obtain ⟨p, hp, rfl⟩ := List.mem_map.mp hx
    obtain ⟨q, hq, rfl⟩ := List.mem_map.mp hy
    exact (hw q hq).2 p hp e
  · rcases List.mem_append.mp hq with h | h
    · exact d2 q h
    · exact (hw q h).1
theorem kJn_p {D : va_G} {A : Nat → Prop} {ws wc b : va_W} (hp : ws.Perm (b ++ wc)) : kJn D A ws wc (fun w => b ++ w) := fun H hA hP hD => kJn_r H hA (kP_perm hp hP) (kD_perm hp hD)
theorem kJ_of {D : va_G} {A : Nat → Prop} {ws wc b : va_W} (hp : ws.Perm (b ++ wc)) : kJ D A ws wc (fun w => w ++ b) := kJ_p (hp.trans List.perm_append_comm) (fun _ _ => List.Perm.refl _)
/-- the class of an array is known by its type -/
theorem kRA_eq {U : State} {x y : ClassId} {ty : FieldType} (h1 : va_RA U x ty) (h2 : va_RA U y ty) : x = y := by
  cases ty with
  | object C =>
    obtain ⟨_, _, -, -, -, h⟩ := h1
    obtain ⟨_, _, -, -, -, h'⟩ := h2
    exact Option.some.inj (h.symm.trans h')
  | _ =>
    have h1 : U.vm.findClass _ = some x := h1
    have h2 : U.vm.findClass _ = some y := h2
    exact Option.some.inj (h1.symm.trans h2)
theorem kK_last {D : va_G} {Y : Nat → ClassId} {U : State} {cA : ClassId} {ty : FieldType} (h : va_K D vwCl (kT Y ++ [(cA, ty)]) U) (k : Nat) (x : ClassId) (hk : (kT Y)[k]? = some (x, ty)) : cA = x := by
  have h1 := (h.2 4 (cA, ty) rfl).2
  have h2 := (h.2 k (x, ty) (by rw [List.getElem?_append_left (List.getElem?_eq_some_iff.mp hk).1]; exact hk)).2
  exact kRA_eq h1 h2
section K3
variable {p : Program} {l : Launch} {e : Env} {R : Room} {s : State} {m : MethodId} {args : Array Value} {below : List Frame} {meth : Method} {c : Code} {H : Heap} {locs : List Loc} {cells slots : Nat} {Q : State → Prop}
variable {cc : ByteArray} {pc : Nat} {ls : Array Slot} {rest st0 : List Value} {D : va_G} {Y : Nat → ClassId} {A : Nat → Prop} {H0 : Heap} {S : Type} {a : Array Value} {mc ms : Nat}
variable {ws wc : va_W} {f : va_W → va_W}
theorem kc_vn {post : S → Prop} {w1 : S → va_W} (hr : va_Run p l e R s m args below meth c H locs cells slots mc ms (F0 m pc ls st0) rest (kQvn D post w1 (va_A wc H.size) a) (va_A wc H.size)) (hP : va_P D vwCl ws H) (hD : va_D A ws) (hS : va_S A H0 H locs) (hA : ∀ q : Nat, H0.size ≤ q → A q) (J : kJn D A ws wc f)
    (kk : ∀ (u : S) (H1 : Heap) (locs1 : List Loc), post u → va_P D vwCl (f (w1 u)) H1 → va_D A (f (w1 u)) → va_S A H0 H1 locs1 → W p l e R s m args below meth c H1 locs1 (cells + mc) (slots + ms) Q (F0 m (pc + 3) ls rest)) : W p l e R s m args below meth c H locs cells slots Q (F0 m pc ls st0) := by
  obtain ⟨j1, j2⟩ := J H (fun q hq => hA q (Nat.le_trans hS.1 hq)) hP hD
  have hF := kfree j1.2 hS hA
  refine va_callv hr hS (fun q _ h => hF q h) hF (fun u t H1 locs1 ht hvm hw hB hz hk hS1 => ?_)
  obtain ⟨hB, hB2⟩ := hB
  rw [ht] at hB
  obtain ⟨z1, z2⟩ := j2 (w1 u) H1 hB hB2 hk
  exact kk u H1 locs1 hw z1 z2 hS1
theorem kc_in {post : Int32 → S → Prop} {w1 : S → va_W} (hr : va_Run p l e R s m args below meth c H locs cells slots mc ms (F0 m pc ls st0) rest (kQin D post w1 (va_A wc H.size) a) (va_A wc H.size)) (hP : va_P D vwCl ws H) (hD : va_D A ws) (hS : va_S A H0 H locs) (hA : ∀ q : Nat, H0.size ≤ q → A q) (J : kJn D A ws wc f)
    (kk : ∀ (r : Int32) (u : S) (H1 : Heap) (locs1 : List Loc), post r u → va_P D vwCl (f (w1 u)) H1 → va_D A (f (w1 u)) → va_S A H0 H1 locs1 → W p l e R s m args below meth c H1 locs1 (cells + mc) (slots + ms) Q (F0 m (pc + 3) ls (.int r :: rest))) : W p l e R s m args below meth c H locs cells slots Q (F0 m pc ls st0) := by
  obtain ⟨j1, j2⟩ := J H (fun q hq => hA q (Nat.le_trans hS.1 hq)) hP hD
  have hF := kfree j1.2 hS hA
  refine va_calli hr hS (fun q _ h => hF q h) hF (fun r u t H1 locs1 ht hvm hw hB hz hk hS1 => ?_)
  obtain ⟨hB, hB2⟩ := hB
  rw [ht] at hB
  obtain ⟨z1, z2⟩ := j2 (w1 u) H1 hB hB2 hk
  exact kk r u H1 locs1 hw z1 z2 hS1
/-- rows of ints, of signs, of truths, made -/
theorem kinewa (hx : p.tables.exec = Jvm.exec) (hb : c.code = cc) (harr : (Cond.arrayClass .int).before args s = true) (hK : va_K D vwCl (kT Y) s) (hP : va_P D vwCl ws H) (hD : va_D A ws) (hS : va_S A H0 H locs) (hA : ∀ q, H0.size ≤ q → A q) (n : Nat) (hn : n < 2 ^ 20) {i : Int32} (hi : i = nI n) (hcells : cells + 1 ≤ R.cells) (hslots : slots + n ≤ R.slots) (hdg : decode cc pc = .ok (.newarray .int, 2))
    (kk : ∀ (q : Nat) (H1 : Heap), va_P D vwCl (ws ++ [(q, .inl (Y 0, n, .inl (fun _ => 0)))]) H1 → va_D A (ws ++ [(q, .inl (Y 0, n, .inl (fun _ => 0)))]) → va_S A H0 H1 locs → W p l e R s m args below meth c H1 locs (cells + 1) (slots + n) Q (F0 m (pc + 2) ls (.ref q :: rest))) : W p l e R s m args below meth c H locs cells slots Q (F0 m pc ls (.int i :: rest)) := by
  subst hi
  refine va_newa (atype := .int) (ty := .int) (a0 := (n, .inl (fun _ => 0))) hx hb harr rfl hK hP hD hS hA (fun _ => rfl) (nI_pos (by omega)) (nI_clamp (by omega)) (by show n * 4 ≤ 536870912; omega) hcells hslots hdg (fun q cA H1 hK2 hP2 hD2 hS2 => ?_)
  have e := kK_last hK2 0 (Y 0) rfl
  subst e
  exact kk q H1 hP2 hD2 hS2
theorem kcnewa (hx : p.tables.exec = Jvm.exec) (hb : c.code = cc) (harr : (Cond.arrayClass .char).before args s = true) (hK : va_K D vwCl (kT Y) s) (hP : va_P D vwCl ws H) (hD : va_D A ws) (hS : va_S A H0 H locs) (hA : ∀ q, H0.size ≤ q → A q) (n : Nat) (hn : n < 2 ^ 20) {i : Int32} (hi : i = nI n) (hcells : cells + 1 ≤ R.cells) (hslots : slots + n ≤ R.slots) (hdg : decode cc pc = .ok (.newarray .char, 2))
    (kk : ∀ (q : Nat) (H1 : Heap), va_P D vwCl (ws ++ [(q, .inl (Y 1, n, .inl (fun _ => 0)))]) H1 → va_D A (ws ++ [(q, .inl (Y 1, n, .inl (fun _ => 0)))]) → va_S A H0 H1 locs → W p l e R s m args below meth c H1 locs (cells + 1) (slots + n) Q (F0 m (pc + 2) ls (.ref q :: rest))) : W p l e R s m args below meth c H locs cells slots Q (F0 m pc ls (.int i :: rest)) := by
  subst hi
  refine va_newa (atype := .char) (ty := .char) (a0 := (n, .inl (fun _ => 0))) hx hb harr rfl hK hP hD hS hA (fun _ => rfl) (nI_pos (by omega)) (nI_clamp (by omega)) (by show n * 2 ≤ 536870912; omega) hcells hslots hdg (fun q cA H1 hK2 hP2 hD2 hS2 => ?_)
  have e := kK_last hK2 1 (Y 1) rfl
  subst e
  exact kk q H1 hP2 hD2 hS2
/-- rows of references -/
abbrev vRf (f : Nat → Option Nat) : vp_A → Prop := fun x => x.2 = .inr (.inr (.inr (.inr f)))
theorem kqnewa (hx : p.tables.exec = Jvm.exec) (hb : c.code = cc) {own : String} {index : Nat} (hown : s.vm.findClass own = some m.cls) (hclink : (Cond.classLink own index RX3).before args s = true) (hover : va_AO RX3 s) (hK : va_K D vwCl (kT Y) s) (hP : va_P D vwCl ws H) (hD : va_D A ws) (hS : va_S A H0 H locs) (hA : ∀ q, H0.size ≤ q → A q) (n : Nat) (hn : n < 2 ^ 20) {i : Int32} (hi : i = nI n) (hcells : cells + 1 ≤ R.cells) (hslots : slots + n ≤ R.slots) (hdg : decode cc pc = .ok (.anewarray index, 3))
    (kk : ∀ (q : Nat) (H1 : Heap), va_P D vwCl (ws ++ [(q, .inl (Y 3, n, .inr (.inr (.inr (.inr (fun _ => none))))))]) H1 → va_D A (ws ++ [(q, .inl (Y 3, n, .inr (.inr (.inr (.inr (fun _ => none))))))]) → va_S A H0 H1 locs → W p l e R s m args below meth c H1 locs (cells + 1) (slots + n) Q (F0 m (pc + 3) ls (.ref q :: rest))) : W p l e R s m args below meth c H locs cells slots Q (F0 m pc ls (.int i :: rest)) := by
  subst hi
  refine va_newq (C := RX3) hx hb hown hclink hover hK hP hD hS hA (nI_pos (by omega)) (nI_clamp (by omega)) (by omega) hcells hslots hdg (fun q cA H1 hK2 hP2 hD2 hS2 => ?_)
  have e := kK_last hK2 3 (Y 3) rfl
  subst e
  exact kk q H1 hP2 hD2 hS2
theorem kaald (hx : p.tables.exec = Jvm.exec) (hb : c.code = cc) (hK : va_K D vwCl (kT Y) s) (hP : va_P D vwCl ws H) (q0 : Nat) {a n : Nat} {f : Nat → Option Nat} (ha : ws[q0]? = some (a, .inl (Y 3, n, .inr (.inr (.inr (.inr f)))))) (k : Nat) {i : Int32} (hi : i = nI k) (hk : k < n) (hn : n < 2 ^ 31) (hdg : decode cc pc = .ok (.aaload, 1))
    (kk : W p l e R s m args below meth c H locs cells slots Q (F0 m (pc + 1) ls (va_rf (f k) :: rest))) : W p l e R s m args below meth c H locs cells slots Q (F0 m pc ls (.int i :: .ref a :: rest)) := by
  subst hi
  refine va_aldq hx hb hK hP q0 3 ha rfl (vp_in_nI hk hn) hdg ?_
  rw [nI_clamp (by omega)]
  exact kk
theorem kaast (hx : p.tables.exec = Jvm.exec) (hb : c.code = cc) (hK : va_K D vwCl (kT Y) s) (hP : va_P D vwCl ws H) (hD : va_D A ws) (hS : va_S A H0 H locs) (q0 qk : Nat) {a n v : Nat} {vs : List Value} {f : Nat → Option Nat} (ha : ws[q0]? = some (a, .inl (Y 3, n, .inr (.inr (.inr (.inr f)))))) (hv : ws[qk]? = some (v, .inr (3, vs))) (k : Nat) {i : Int32} (hi : i = nI k) (hk : k < n) (hn : n < 2 ^ 31) (hdg : decode cc pc = .ok (.aastore, 1)) (ws1 : va_W) (hw : ws.set q0 (a, .inl (Y 3, n, .inr (.inr (.inr (.inr (va_up f k (some v))))))) = ws1)
    (kk : ∀ (H1 : Heap) (locs1 : List Loc), va_P D vwCl ws1 H1 → va_D A ws1 → va_S A H0 H1 locs1 → W p l e R s m args below meth c H1 locs1 cells slots Q (F0 m (pc + 1) ls rest)) : W p l e R s m args below meth c H locs cells slots Q (F0 m pc ls (.ref v :: .int i :: .ref a :: rest)) := by
  subst hi
  subst hw
  refine va_astq (r := (RX3, TX3, 9)) hx hb hK hP hD hS q0 3 qk 3 ha rfl hv rfl (vp_in_nI hk hn) hdg (fun H1 locs1 h1 h2 h3 => ?_)
  rw [nI_clamp (by omega)] at h1 h2
  exact kk H1 locs1 h1 h2 h3
end K3
/-- that rows of mills can be made -/
def kXo : Nat → State → Prop := fun _ U => va_AO RX3 U
theorem kXo_b : kXb kXo := fun _ a U g mk h => va_AO.moved (u := U) (U := U.calling g mk a) (Vm.Alike.refl U.vm) h
theorem kXo_go {s : State} {H : Heap} {n : Nat} (h : kXo n s) : ∀ U : State, U.heap = H → s.WarmedH U.vm → kXo H.size U := fun U _ hw => va_AO.moved hw.alike h
/-! the class's cells: seven blocks, and nine places for mills that may be there -/
abbrev kFm : Type := Nat → Option ((Nat → Nat) × kN)
def kOb (Y : Nat → ClassId) (F : kFm) (q : Nat) : va_W := match F q with
  | none => []
  | some x => wM Y x.1 x.2
def kw (Y : Nat → ClassId) (bs : List va_W) (F : kFm) : va_W := (bs ++ (List.range 9).map (kOb Y F)).flatten
def kUp (F : kFm) (q : Nat) (x : (Nat → Nat) × kN) : kFm := fun j => if j = q then some x else F j
theorem kOb_get {Y : Nat → ClassId} {bs : List va_W} {F : kFm} {q : Nat} (hq : q < 9) : (bs ++ (List.range 9).map (kOb Y F))[bs.length + q]? = some (kOb Y F q) := by
  rw [List.getElem?_append_right (by omega), Nat.add_sub_cancel_left, List.getElem?_map, List.getElem?_range hq]
  rfl
theorem kOb_set {Y : Nat → ClassId} {bs : List va_W} {F : kFm} {q : Nat} {x : (Nat → Nat) × kN} (hq : q < 9) : (bs ++ (List.range 9).map (kOb Y F)).set (bs.length + q) (wM Y x.1 x.2) = bs ++ (List.range 9).map (kOb Y (kUp F q x)) := by
  rw [List.set_append_right _ _ (by omega), Nat.add_sub_cancel_left]
  congr 1
  apply List.ext_getElem?
  intro i
  by_cases hi : i = q
  · subst hi
    rw [List.getElem?_set_self (by simpa using hq), List.getElem?_map, List.getElem?_range hq]
    show some (wM Y x.1 x.2) = some (kOb Y (kUp F i x) i)
    unfold kOb kUp
    rw [if_pos rfl]
  · rw [List.getElem?_set_ne (Ne.symm hi), List.getElem?_map, List.getElem?_map]
    by_cases h9 : i < 9
    · rw [List.getElem?_range h9]
      show some (kOb Y F i) = some (kOb Y (kUp F q x) i)
      unfold kOb kUp
      rw [if_neg hi]
    · rw [List.getElem?_eq_none (by simpa using h9)]
      rfl
theorem kOb_set0 {Y : Nat → ClassId} {bs : List va_W} {F : kFm} {q : Nat} {x : (Nat → Nat) × kN} (hq : q < 9) (h : F q = none) : (bs ++ (List.range 9).map (kOb Y (kUp F q x))).set (bs.length + q) [] = bs ++ (List.range 9).map (kOb Y F) := by
  rw [List.set_append_right _ _ (by omega), Nat.add_sub_cancel_left]
  congr 1
  apply List.ext_getElem?
  intro i
  by_cases hi : i = q
  · subst hi
    rw [List.getElem?_set_self (by simpa using hq), List.getElem?_map, List.getElem?_range hq]
    show some [] = some (kOb Y F i)
    unfold kOb
    rw [h]
  · rw [List.getElem?_set_ne (Ne.symm hi), List.getElem?_map, List.getElem?_map]
    by_cases h9 : i < 9
    · rw [List.getElem?_range h9]
      show some (kOb Y (kUp F q x) i) = some (kOb Y F i)
      unfold kOb kUp
      rw [if_neg hi]
    · rw [List.getElem?_eq_none (by simpa using h9)]
      rfl
theorem kw_new {Y : Nat → ClassId} {bs : List va_W} {F : kFm} {q : Nat} {x : (Nat → Nat) × kN} (hq : q < 9) (h : F q = none) : (kw Y bs F ++ wM Y x.1 x.2).Perm (kw Y bs (kUp F q x)) := by
  have e : (bs ++ (List.range 9).map (kOb Y (kUp F q x)))[bs.length + q]? = some (wM Y x.1 x.2) := by
    rw [kOb_get hq]
    unfold kOb kUp
    rw [if_pos rfl]
  have k1 := kpick _ _ _ e
  rw [kOb_set0 hq h] at k1
  exact (k1.trans List.perm_append_comm).symm
theorem kset_self {α : Type} {l : List α} {i : Nat} {x : α} (h : l[i]? = some x) : l.set i x = l := by
  apply List.ext_getElem?
  intro j
  by_cases hj : j = i
  · subst hj
    rw [List.getElem?_set_self (List.getElem?_eq_some_iff.mp h).1, h]
  · rw [List.getElem?_set_ne (Ne.symm hj)]
theorem kJ_b2' {D : va_G} {A : Nat → Prop} {bs : List va_W} {w1 w2 : va_W} (i j n : Nat) (h1 : bs[i]? = some w1) (h2 : bs[j]? = some w2) (hij : i ≠ j) (hn : w1.length = n) : kJ D A bs.flatten (w1 ++ w2) (fun w => ((bs.set i (w.take n)).set j (w.drop n)).flatten) :=
  kJ_b2 i j h1 h2 hij (fun w => (bs.set i (w.take n)).set j (w.drop n)) (fun u v hu hv => by
    have hl : u.length = n := by
      have := congrArg List.length hu
      rw [List.length_map, List.length_map] at this
      omega
    rw [List.take_left' hl, List.drop_left' hl])
theorem wM_len (Y : Nat → ClassId) (a : Nat → Nat) (M : kN) : (wM Y a M).length = 24 := rfl
/-- from a mill among the blocks to the mill at a place -/
theorem kJ_mF {D : va_G} {A : Nat → Prop} {Y : Nat → ClassId} {bs : List va_W} {F : kFm} {a α : Nat → Nat} {M X : kN} {q : Nat} (i0 : Nat) (hb : bs.length = 7) (hi : i0 < 7) (hm : bs[i0]? = some (wM Y a M)) (hq : q < 9) (hF : F q = some (α, X)) : kJ D A (kw Y bs F) (wM Y a M ++ wM Y α X) (fun w => (((bs ++ (List.range 9).map (kOb Y F)).set i0 (w.take 24)).set (7 + q) (w.drop 24)).flatten) :=
  kJ_b2' i0 (7 + q) 24 (by rw [List.getElem?_append_left (by omega)]; exact hm) (by
    have := kOb_get (Y := Y) (bs := bs) (F := F) hq
    rw [hb] at this
    rw [this]
    unfold kOb
    rw [hF]) (by omega) rfl
theorem kw_mF {Y : Nat → ClassId} {bs : List va_W} {F : kFm} {a α : Nat → Nat} {M u : kN} {q : Nat} (i0 : Nat) (hb : bs.length = 7) (hi : i0 < 7) (hm : bs[i0]? = some (wM Y a M)) (hq : q < 9) : (((bs ++ (List.range 9).map (kOb Y F)).set i0 ((wM Y a M ++ wM Y α u).take 24)).set (7 + q) ((wM Y a M ++ wM Y α u).drop 24)).flatten = kw Y bs (kUp F q (α, u)) := by
  rw [List.take_left' (wM_len Y a M), List.drop_left' (wM_len Y a M), kset_self (l := bs ++ (List.range 9).map (kOb Y F)) (i := i0) (x := wM Y a M) (by rw [List.getElem?_append_left (by omega)]; exact hm)]
  have := kOb_set (Y := Y) (bs := bs) (F := F) (x := (α, u)) hq
  rw [hb] at this
  rw [this]
  rfl
/-- from the mill at a place to a mill among the blocks -/
theorem kJ_Fm {D : va_G} {A : Nat → Prop} {Y : Nat → ClassId} {bs : List va_W} {F : kFm} {a α : Nat → Nat} {M X : kN} {q : Nat} (i0 : Nat) (hb : bs.length = 7) (hi : i0 < 7) (hm : bs[i0]? = some (wM Y a M)) (hq : q < 9) (hF : F q = some (α, X)) : kJ D A (kw Y bs F) (wM Y α X ++ wM Y a M) (fun w => (((bs ++ (List.range 9).map (kOb Y F)).set (7 + q) (w.take 24)).set i0 (w.drop 24)).flatten) :=
  kJ_b2' (7 + q) i0 24 (by
    have := kOb_get (Y := Y) (bs := bs) (F := F) hq
    rw [hb] at this
    rw [this]
    unfold kOb
    rw [hF]) (by rw [List.getElem?_append_left (by omega)]; exact hm) (by omega) rfl
theorem kw_Fm {Y : Nat → ClassId} {bs : List va_W} {F : kFm} {a α : Nat → Nat} {X u : kN} {q : Nat} (i0 : Nat) (hb : bs.length = 7) (hi : i0 < 7) (hq : q < 9) (hF : F q = some (α, X)) : (((bs ++ (List.range 9).map (kOb Y F)).set (7 + q) ((wM Y α X ++ wM Y a u).take 24)).set i0 ((wM Y α X ++ wM Y a u).drop 24)).flatten = kw Y (bs.set i0 (wM Y a u)) F := by
  have := kOb_get (Y := Y) (bs := bs) (F := F) hq
  rw [hb] at this
  rw [List.take_left' (wM_len Y α X), List.drop_left' (wM_len Y α X), kset_self (l := bs ++ (List.range 9).map (kOb Y F)) (i := 7 + q) (x := wM Y α X) (by
    rw [this]
    unfold kOb
    rw [hF]), List.set_append_left _ _ (by omega)]
  rfl
theorem kJ_right {D : va_G} {A : Nat → Prop} {b wc : va_W} : kJ D A (b ++ wc) wc (fun w => b ++ w) := kJ_p (List.perm_append_comm) (fun _ _ => List.perm_append_comm)
