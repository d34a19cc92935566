/-! the judgement in one form: a contract of a method over a world, its entry, its returns, its calls -/
abbrev kT (Y : Nat → ClassId) : List (ClassId × FieldType) := [(Y 0, .int), (Y 1, .char), (Y 2, .int), (Y 3, .object RX3)]
abbrev kR (f c s l : Nat) : Room := { frames := f, cells := c, slots := s, locals := l }
/-- the nest's links are there -/
def kNs (U : State) : Prop := ∀ q ∈ kNest, va_Nw (.methodLinkNest q.1 q.2.1 q.2.2.1 q.2.2.2) U
theorem kNs.warm {s U : State} (h : kNs s) (hW : s.WarmedH U.vm) : kNs U := fun q hq => va_Nw.warmM hW (h q hq)
theorem kNs.same {u U : State} (h : kNs u) (e : u.vm = U.vm) : kNs U := fun q hq => va_Nw.same rfl e (h q hq)
/-- what holds of a start: the size, the world, the tables, that the cells are apart, and something more -/
def kPc (D : va_G) (Y : Nat → ClassId) (ws : va_W) (av : List Value) (X : Nat → State → Prop) (sz : Nat) : Array Value → State → Prop := va_Pc av (fun U => U.heap.size = sz ∧ va_P D vwCl ws U.heap ∧ va_K D vwCl (kT Y) U ∧ kNs U ∧ va_D (fun _ => True) ws ∧ X sz U)
def kX0 : Nat → State → Prop := fun _ _ => True
/-- the extra part says nothing of the frames -/
def kXb (X : Nat → State → Prop) : Prop := ∀ (sz : Nat) (a : Array Value) (U : State) (g : JFrame) (mk : MethodId), X sz U → X sz (U.calling g mk a)
theorem kX0b : kXb kX0 := fun _ _ _ _ _ _ => trivial
/-- a contract -/
def kM (l : Launch) (y : MethodName) (wsy : List Cond) (rm : Room) (D : va_G) (Y : Nat → ClassId) (ws : va_W) (av : List Value) (X : Nat → State → Prop) (Qc : (Nat → Prop) → Array Value → State → Outcome → State → Prop) : Prop :=
  ∀ sz : Nat, Met l y wsy rm (kPc D Y ws av X sz) (Qc (va_A ws sz)) rm.cells rm.slots (va_A ws sz)
abbrev kQi {S : Type} (D : va_G) (post : Int32 → S → Prop) (w1 : S → va_W) : (Nat → Prop) → Array Value → State → Outcome → State → Prop := fun A => va_Qi post (fun u t => va_P D vwCl (w1 u) t.heap) A
abbrev kQl {S : Type} (D : va_G) (post : Int64 → S → Prop) (w1 : S → va_W) : (Nat → Prop) → Array Value → State → Outcome → State → Prop := fun A => va_Ql post (fun u t => va_P D vwCl (w1 u) t.heap) A
abbrev kQv {S : Type} (D : va_G) (post : S → Prop) (w1 : S → va_W) : (Nat → Prop) → Array Value → State → Outcome → State → Prop := fun A => va_Qv post (fun u t => va_P D vwCl (w1 u) t.heap) A
/-- of a method that makes cells: the new world is apart, and lies in what is its own -/
abbrev kQvn {S : Type} (D : va_G) (post : S → Prop) (w1 : S → va_W) : (Nat → Prop) → Array Value → State → Outcome → State → Prop := fun A => va_Qv post (fun u t => va_P D vwCl (w1 u) t.heap ∧ va_D A (w1 u)) A
abbrev kQin {S : Type} (D : va_G) (post : Int32 → S → Prop) (w1 : S → va_W) : (Nat → Prop) → Array Value → State → Outcome → State → Prop := fun A => va_Qi post (fun u t => va_P D vwCl (w1 u) t.heap ∧ va_D A (w1 u)) A
theorem kPc_blind {D : va_G} {Y : Nat → ClassId} {ws : va_W} {av : List Value} {X : Nat → State → Prop} (hX : kXb X) (sz : Nat) : FrameBlind (kPc D Y ws av X sz) := by
  intro a U g mk q
  obtain ⟨q0, q1, q2, q3, q6, q4, q5⟩ := q
  exact ⟨q0, q1, q2, va_K.moved (u := U) (U := U.calling g mk a) (Vm.Alike.refl U.vm) q3, q6.same rfl, q4, hX _ _ _ _ _ q5⟩
set_option maxHeartbeats 4000000 in
theorem kentry {l : Launch} {y : MethodName} {wsy : List Cond} {rm : Room} {D : va_G} {Y : Nat → ClassId} {ws : va_W} {av : List Value} {X : Nat → State → Prop} {Qc : (Nat → Prop) → Array Value → State → Outcome → State → Prop} {cc : ByteArray} {maxL : Nat} {ret : Option FieldType}
    (hy : plainName y.cls = true) (hw : wsy = Cond.code y cc maxL ret :: kAL) (hlen : (lg_sl av).length ≤ maxL)
    (body : ∀ (p : Program) (e : Env) (s : State) (m : MethodId) (args : Array Value) (below : List Frame) (meth : Method) (c : Code) (A : Nat → Prop) (Q : State → Prop) (ls : Array Slot),
      Q = MQ below (Qc A) args s rm.cells rm.slots A → p.tables.exec = Jvm.exec → c.code = cc → meth.sig.returnType = ret → meth.locks = false → c.maxLocals = maxL → s.vm.findClass y.cls = some m.cls → meth.name = y.name →
      (∀ w ∈ kAL, w.before args s = true) → (∀ q : Nat, s.heap.size ≤ q → A q) → X s.heap.size s → va_K D vwCl (kT Y) s → kNs s → va_P D vwCl ws s.heap → va_D A ws → va_S A s.heap s.heap [] → lv_has ls maxL (lv_args 0 av) →
      W p l e rm s m args below meth c s.heap [] 0 0 Q (F0 m 0 ls [])) : kM l y wsy rm D Y ws av X Qc := by
  intro sz
  refine Met.ofW (cc := cc) (maxL := maxL) (ret := ret) hy hw ?_
  intro p e s m args below meth c s₁ B hml hv
  obtain ⟨rfl, hsz, hP, hK, hNs, hD0, hX⟩ := hv
  subst hsz
  have hts := atoms_spec (ws := wsy) B.pre
  have hD := hD0.self (sz := s.heap.size)
  have hl := lv_entry av (n := maxL) hlen
  rw [lg_entry_eq]
  exact body p e s m av.toArray below meth c (va_A ws s.heap.size) _ _ rfl B.exec B.bytes B.returns B.notSynchronized hml (findClass_of_methodNamed B.named) (name_of_methodNamed B.named B.method).1 (fun w h => hts w (by rw [hw]; exact List.mem_cons_of_mem _ h)) (fun q h => Or.inr h) hX hK hNs hP hD va_S.rf hl
section KR
variable {p : Program} {l : Launch} {e : Env} {R : Room} {s : State} {m : MethodId} {args : Array Value} {below : List Frame} {meth : Method} {c : Code} {H : Heap} {locs : List Loc} {cells slots : Nat} {Q : State → Prop}
variable {cc : ByteArray} {pc : Nat} {ls : Array Slot} {D : va_G} {A : Nat → Prop} {S : Type}
theorem kiret {post : Int32 → S → Prop} {w1 : S → va_W} {v : Int32} (u : S) (hQ : Q = MQ below (kQi D post w1 A) args s cells slots A) (hx : p.tables.exec = Jvm.exec) (hb : c.code = cc) (hr : meth.sig.returnType = some .int) (hlocks : meth.locks = false) (hP : va_P D vwCl (w1 u) H) (hS : va_S A s.heap H locs) (hdg : decode cc pc = .ok (.ireturn, 1)) (hpost : post v u) : W p l e R s m args below meth c H locs cells slots Q (F0 m pc ls [.int v]) := by
  rw [hQ]
  exact W.iret hx hb hr (fun t ht hW => ⟨⟨v, u, rfl, hpost, by show va_P D vwCl (w1 u) t.heap; rw [ht]; exact hP⟩, hS.F ht⟩) hS.2.2 hdg hlocks
theorem kzret {post : Int32 → S → Prop} {w1 : S → va_W} {v : Int32} (u : S) (hQ : Q = MQ below (kQi D post w1 A) args s cells slots A) (hx : p.tables.exec = Jvm.exec) (hb : c.code = cc) (hr : meth.sig.returnType = some .boolean) (hlocks : meth.locks = false) (hP : va_P D vwCl (w1 u) H) (hS : va_S A s.heap H locs) (hdg : decode cc pc = .ok (.ireturn, 1)) (hn : v = 0 ∨ v = 1) (hpost : post v u) : W p l e R s m args below meth c H locs cells slots Q (F0 m pc ls [.int v]) := by
  rw [hQ]
  exact W.zret hx hb hr (by rcases hn with rfl | rfl <;> rfl) (fun t ht hW => ⟨⟨v, u, rfl, hpost, by show va_P D vwCl (w1 u) t.heap; rw [ht]; exact hP⟩, hS.F ht⟩) hS.2.2 hdg hlocks
theorem kvret {post : S → Prop} {w1 : S → va_W} (u : S) (hQ : Q = MQ below (kQv D post w1 A) args s cells slots A) (hx : p.tables.exec = Jvm.exec) (hb : c.code = cc) (hr : meth.sig.returnType = none) (hlocks : meth.locks = false) (hP : va_P D vwCl (w1 u) H) (hS : va_S A s.heap H locs) (hdg : decode cc pc = .ok (.return_, 1)) (hpost : post u) : W p l e R s m args below meth c H locs cells slots Q (F0 m pc ls []) := by
  rw [hQ]
  exact W.vret hx hb hr (fun t ht hW => ⟨⟨u, rfl, hpost, by show va_P D vwCl (w1 u) t.heap; rw [ht]; exact hP⟩, hS.F ht⟩) hS.2.2 hdg hlocks
theorem klret {post : Int64 → S → Prop} {w1 : S → va_W} {v : Int64} (u : S) (hQ : Q = MQ below (kQl D post w1 A) args s cells slots A) (hx : p.tables.exec = Jvm.exec) (hb : c.code = cc) (hr : meth.sig.returnType = some .long) (hlocks : meth.locks = false) (hP : va_P D vwCl (w1 u) H) (hS : va_S A s.heap H locs) (hdg : decode cc pc = .ok (.lreturn, 1)) (hpost : post v u) : W p l e R s m args below meth c H locs cells slots Q (F0 m pc ls [.long v]) := by
  rw [hQ]
  exact W.lret hx hb hr (fun t ht hW => ⟨⟨v, u, rfl, hpost, by show va_P D vwCl (w1 u) t.heap; rw [ht]; exact hP⟩, hS.F ht⟩) hS.2.2 hdg hlocks
theorem kvretn {post : S → Prop} {w1 : S → va_W} (u : S) (hQ : Q = MQ below (kQvn D post w1 A) args s cells slots A) (hx : p.tables.exec = Jvm.exec) (hb : c.code = cc) (hr : meth.sig.returnType = none) (hlocks : meth.locks = false) (hP : va_P D vwCl (w1 u) H) (hD : va_D A (w1 u)) (hS : va_S A s.heap H locs) (hdg : decode cc pc = .ok (.return_, 1)) (hpost : post u) : W p l e R s m args below meth c H locs cells slots Q (F0 m pc ls []) := by
  rw [hQ]
  exact W.vret hx hb hr (fun t ht hW => ⟨⟨u, rfl, hpost, (by show va_P D vwCl (w1 u) t.heap; rw [ht]; exact hP), hD⟩, hS.F ht⟩) hS.2.2 hdg hlocks
theorem kiretn {post : Int32 → S → Prop} {w1 : S → va_W} {v : Int32} (u : S) (hQ : Q = MQ below (kQin D post w1 A) args s cells slots A) (hx : p.tables.exec = Jvm.exec) (hb : c.code = cc) (hr : meth.sig.returnType = some .int) (hlocks : meth.locks = false) (hP : va_P D vwCl (w1 u) H) (hD : va_D A (w1 u)) (hS : va_S A s.heap H locs) (hdg : decode cc pc = .ok (.ireturn, 1)) (hpost : post v u) : W p l e R s m args below meth c H locs cells slots Q (F0 m pc ls [.int v]) := by
  rw [hQ]
  exact W.iret hx hb hr (fun t ht hW => ⟨⟨v, u, rfl, hpost, (by show va_P D vwCl (w1 u) t.heap; rw [ht]; exact hP), hD⟩, hS.F ht⟩) hS.2.2 hdg hlocks
end KR
/-- a world with some places put anew -/
def kset (ws : va_W) : List Nat → va_W → va_W
  | i :: is, c :: cs => kset (ws.set i c) is cs
  | _, _ => ws
theorem kset_D {A : Nat → Prop} : ∀ (is : List Nat) (ws wc w1 : va_W), is.map (fun i => ws[i]?) = wc.map some → w1.map (·.1) = wc.map (·.1) → va_nd is = true → va_D A ws → va_D A (kset ws is w1)
  | [], ws, wc, w1, _, _, _, hD => by cases w1 <;> exact hD
  | i :: is, ws, [], w1, h, _, _, _ => by simp at h
  | i :: is, ws, c :: wc, [], _, h2, _, _ => by simp at h2
  | i :: is, ws, c :: wc, d :: w1, h, h2, h3, hD => by
    simp only [List.map_cons, List.cons.injEq] at h h2
    obtain ⟨a, e⟩ := d
    obtain ⟨a0, e0⟩ := c
    obtain ⟨h2a, h2b⟩ := h2
    subst h2a
    have hni : ∀ j ∈ is, j ≠ i := by
      intro j hj hji
      subst hji
      obtain ⟨k, hk⟩ := List.getElem?_of_mem hj
      have := va_nd_inj (j :: is) h3 0 (k + 1) j rfl hk
      omega
    refine kset_D is (ws.set i (a, e)) wc w1 ?_ h2b ?_ (hD.set h.1)
    · rw [← h.2]
      apply List.map_congr_left
      intro j hj
      exact List.getElem?_set_ne (fun z => hni j hj z.symm)
    · simp only [va_nd, Bool.and_eq_true] at h3
      exact h3.2
theorem kset_get : ∀ (is : List Nat) (ws wc w1 : va_W) (k : Nat) (q : Nat × va_E), is.map (fun i => ws[i]?) = wc.map some → w1.map (·.1) = wc.map (·.1) → va_nd is = true → (kset ws is w1)[k]? = some q → (k ∉ is ∧ ws[k]? = some q) ∨ ∃ j : Nat, w1[j]? = some q
  | [], ws, wc, w1, k, q, _, _, _, hk => by cases w1 <;> exact Or.inl ⟨List.not_mem_nil, hk⟩
  | i :: is, ws, [], w1, k, q, h, _, _, _ => by simp at h
  | i :: is, ws, c :: wc, [], k, q, _, h2, _, _ => by simp at h2
  | i :: is, ws, c :: wc, d :: w1, k, q, h, h2, h3, hk => by
    simp only [List.map_cons, List.cons.injEq] at h h2
    have hni : ∀ j ∈ is, j ≠ i := by
      intro j hj hji
      subst hji
      obtain ⟨k, hk⟩ := List.getElem?_of_mem hj
      have := va_nd_inj (j :: is) h3 0 (k + 1) j rfl hk
      omega
    have h3' : va_nd is = true := by
      simp only [va_nd, Bool.and_eq_true] at h3
      exact h3.2
    have hm : is.map (fun j => (ws.set i d)[j]?) = wc.map some := by
      rw [← h.2]
      apply List.map_congr_left
      intro j hj
      exact List.getElem?_set_ne (fun z => hni j hj z.symm)
    rcases kset_get is (ws.set i d) wc w1 k q hm h2.2 h3' hk with ⟨h4, h5⟩ | ⟨j, hj⟩
    · by_cases hki : k = i
      · subst hki
        have hl := (List.getElem?_eq_some_iff.mp h.1).1
        rw [List.getElem?_set_self hl] at h5
        exact Or.inr ⟨0, h5⟩
      · rw [List.getElem?_set_ne (Ne.symm hki)] at h5
        refine Or.inl ⟨fun hh => ?_, h5⟩
        rcases List.mem_cons.mp hh with z | z
        · exact hki z
        · exact h4 z
    · exact Or.inr ⟨j + 1, hj⟩
theorem kset_P {D : va_G} {cl : List vw_C} {A : Nat → Prop} {is : List Nat} {ws wc w1 : va_W} {H H1 : Heap} (hC : is.map (fun i => ws[i]?) = wc.map some) (ha : w1.map (·.1) = wc.map (·.1)) (hn : va_nd is = true) (hP : va_P D cl ws H) (hD : va_D A ws) (hP1 : va_P D cl w1 H1) (hk : ∀ q : Nat, q < H.size → ¬ va_A wc H.size q → H1[q]? = H[q]?) : va_P D cl (kset ws is w1) H1 := by
  intro k q hq
  rcases kset_get is ws wc w1 k q hC ha hn hq with ⟨h1, h2⟩ | ⟨j, hj⟩
  · have hl := (hP k q h2).lt
    refine (hP k q h2).kept (hk q.1 hl ?_)
    rintro (⟨k2, e, h⟩ | h)
    · have h3 : (is.map (fun i => ws[i]?))[k2]? = some (some (q.1, e)) := by rw [hC, List.getElem?_map, h]; rfl
      rw [List.getElem?_map] at h3
      cases hi : is[k2]? with
      | none => rw [hi] at h3; cases h3
      | some i =>
        rw [hi] at h3
        have hij := hD.1 k i q (q.1, e) h2 (Option.some.inj h3) rfl
        subst hij
        exact h1 (List.mem_of_getElem? hi)
    · omega
  · exact hP1 j q hj
theorem kfm {f : Nat → Option (Nat × va_E)} : ∀ (is : List Nat) (wc : va_W), is.map f = wc.map some → is.filterMap f = wc
  | [], [], _ => rfl
  | [], _ :: _, h => by simp at h
  | _ :: _, [], h => by simp at h
  | i :: is, c :: wc, h => by
    simp only [List.map_cons, List.cons.injEq] at h
    rw [List.filterMap_cons, h.1, kfm is wc h.2]
theorem kD_same {A : Nat → Prop} {ws w1 : va_W} (h : w1.map (·.1) = ws.map (·.1)) (hD : va_D A ws) : va_D A w1 := by
  have key : ∀ (k : Nat) (q : Nat × va_E), w1[k]? = some q → ∃ q0, ws[k]? = some q0 ∧ q0.1 = q.1 := by
    intro k q hk
    have h1 : (w1.map (·.1))[k]? = some q.1 := by rw [List.getElem?_map, hk]; rfl
    rw [h, List.getElem?_map] at h1
    cases hw : ws[k]? with
    | none => rw [hw] at h1; cases h1
    | some q0 => rw [hw] at h1; exact ⟨q0, rfl, Option.some.inj h1⟩
  refine ⟨fun i j x y hi hj hxy => ?_, fun k q hk => ?_⟩
  · obtain ⟨x0, h1, h2⟩ := key i x hi
    obtain ⟨y0, h3, h4⟩ := key j y hj
    exact hD.1 i j x0 y0 h1 h3 (h2.trans (hxy.trans h4.symm))
  · obtain ⟨q0, h1, h2⟩ := key k q hk
    rw [← h2]
    exact hD.2 k q0 h1
/-- a callee's world in the caller's: what it is given, and what the caller has behind it -/
def kJ (D : va_G) (A : Nat → Prop) (ws wc : va_W) (f : va_W → va_W) : Prop := ∀ H : Heap, va_P D vwCl ws H → va_D A ws → (va_P D vwCl wc H ∧ va_D A wc) ∧ ∀ (w1 : va_W) (H1 : Heap), w1.map (·.1) = wc.map (·.1) → va_P D vwCl w1 H1 → (∀ q : Nat, q < H.size → ¬ va_A wc H.size q → H1[q]? = H[q]?) → va_P D vwCl (f w1) H1 ∧ va_D A (f w1)
theorem kJ_all {D : va_G} {A : Nat → Prop} {ws : va_W} : kJ D A ws ws (fun w => w) := fun _ hP hD => ⟨⟨hP, hD⟩, fun _ _ ha hP1 _ => ⟨hP1, kD_same ha hD⟩⟩
theorem kJ_sub {D : va_G} {A : Nat → Prop} {ws wc : va_W} (isC : List Nat) (hC : isC.map (fun i => ws[i]?) = wc.map some) (hn : va_nd isC = true) : kJ D A ws wc (kset ws isC) := fun _ hP hD => ⟨⟨hP.sub isC (kfm isC wc hC), hD.sub isC hn hC⟩, fun w1 _ ha hP1 hk => ⟨kset_P hC ha hn hP hD hP1 hk, kset_D isC ws wc w1 hC ha hn hD⟩⟩
theorem kP_l {D : va_G} {a b : va_W} {H : Heap} (h : va_P D vwCl (a ++ b) H) : va_P D vwCl a H := fun k q hk => h k q (by rw [List.getElem?_append_left (List.getElem?_eq_some_iff.mp hk).1]; exact hk)
theorem kP_r {D : va_G} {a b : va_W} {H : Heap} (h : va_P D vwCl (a ++ b) H) : va_P D vwCl b H := fun k q hk => h (a.length + k) q (by rw [List.getElem?_append_right (by omega), Nat.add_sub_cancel_left]; exact hk)
theorem kD_l {A : Nat → Prop} {a b : va_W} (h : va_D A (a ++ b)) : va_D A a := by
  have z : ∀ (k : Nat) (q : Nat × va_E), a[k]? = some q → (a ++ b)[k]? = some q := fun k q hk => by rw [List.getElem?_append_left (List.getElem?_eq_some_iff.mp hk).1]; exact hk
  exact ⟨fun i j x y hi hj hxy => h.1 i j x y (z i x hi) (z j y hj) hxy, fun k q hk => h.2 k q (z k q hk)⟩
theorem kD_r {A : Nat → Prop} {a b : va_W} (h : va_D A (a ++ b)) : va_D A b := by
  have z : ∀ (k : Nat) (q : Nat × va_E), b[k]? = some q → (a ++ b)[a.length + k]? = some q := fun k q hk => by rw [List.getElem?_append_right (by omega), Nat.add_sub_cancel_left]; exact hk
  refine ⟨fun i j x y hi hj hxy => ?_, fun k q hk => h.2 _ q (z k q hk)⟩
  have := h.1 _ _ x y (z i x hi) (z j y hj) hxy
  omega
theorem kD_apart {A : Nat → Prop} {a b : va_W} (h : va_D A (a ++ b)) (i j : Nat) (p q : Nat × va_E) (hi : a[i]? = some p) (hj : b[j]? = some q) : p.1 ≠ q.1 := by
  intro e
  have hl := (List.getElem?_eq_some_iff.mp hi).1
  have := h.1 i (a.length + j) p q (by rw [List.getElem?_append_left hl]; exact hi) (by rw [List.getElem?_append_right (by omega), Nat.add_sub_cancel_left]; exact hj) e
  omega
theorem kP_stay {D : va_G} {A : Nat → Prop} {a b wc : va_W} {H H1 : Heap} (hP : va_P D vwCl b H) (hx : ∀ (i j : Nat) (p q : Nat × va_E), wc[i]? = some p → b[j]? = some q → p.1 ≠ q.1) (hk : ∀ q : Nat, q < H.size → ¬ va_A wc H.size q → H1[q]? = H[q]?) : va_P D vwCl b H1 := by
  intro k q hq
  have hl := (hP k q hq).lt
  refine (hP k q hq).kept (hk q.1 hl ?_)
  rintro (⟨i, e, h⟩ | h)
  · exact hx i k (q.1, e) q h hq rfl
  · omega
theorem kfst {a b : va_W} (h : a.map (·.1) = b.map (·.1)) {i : Nat} {p : Nat × va_E} (hi : a[i]? = some p) : ∃ p0, b[i]? = some p0 ∧ p0.1 = p.1 := by
  have h1 : (a.map (·.1))[i]? = some p.1 := by rw [List.getElem?_map, hi]; rfl
  rw [h, List.getElem?_map] at h1
  cases hw : b[i]? with
  | none => rw [hw] at h1; cases h1
  | some q0 => rw [hw] at h1; exact ⟨q0, rfl, Option.some.inj h1⟩
theorem kJ_l {D : va_G} {A : Nat → Prop} {wc b : va_W} : kJ D A (wc ++ b) wc (fun w => w ++ b) := by
  intro H hP hD
  refine ⟨⟨kP_l hP, kD_l hD⟩, fun w1 H1 ha hP1 hk => ⟨va_P.app hP1 (kP_stay (A := A) (a := wc) (kP_r hP) (fun i j p q hi hj => kD_apart hD i j p q hi hj) hk), kD_same ?_ hD⟩⟩
  rw [List.map_append, List.map_append, ha]
theorem kJ_r {D : va_G} {A : Nat → Prop} {ws wc b : va_W} {f : va_W → va_W} (hf : ∀ w1 : va_W, w1.map (·.1) = wc.map (·.1) → (f w1).map (·.1) = ws.map (·.1)) (hs : ∀ q ∈ wc.map (·.1), q ∈ ws.map (·.1)) (J : kJ D A ws wc f) : kJ D A (b ++ ws) wc (fun w => b ++ f w) := by
  intro H hP hD
  obtain ⟨h1, h2⟩ := J H (kP_r hP) (kD_r hD)
  refine ⟨h1, fun w1 H1 ha hP1 hk => ⟨va_P.app (kP_stay (A := A) (a := wc) (kP_l hP) (fun i j p q hi hj e => ?_) hk) (h2 w1 H1 ha hP1 hk).1, kD_same ?_ hD⟩⟩
  · have hm : p.1 ∈ ws.map (·.1) := hs p.1 (List.mem_map.mpr ⟨p, List.mem_of_getElem? hi, rfl⟩)
    obtain ⟨p2, hp2, e2⟩ := List.mem_map.mp hm
    obtain ⟨k, hk2⟩ := List.getElem?_of_mem hp2
    exact kD_apart hD j k q p2 hj hk2 (e.symm.trans e2.symm)
  · rw [List.map_append, List.map_append, hf w1 ha]
section KC
variable {p : Program} {l : Launch} {e : Env} {R : Room} {s : State} {m : MethodId} {args : Array Value} {below : List Frame} {meth : Method} {c : Code} {H : Heap} {locs : List Loc} {cells slots : Nat} {Q : State → Prop}
variable {cc : ByteArray} {pc : Nat} {ls : Array Slot} {rest st0 : List Value} {D : va_G} {Y : Nat → ClassId} {A : Nat → Prop} {H0 : Heap} {S : Type} {a : Array Value} {mc ms : Nat}
variable {y : MethodName} {bytes : ByteArray} {maxL nL n index : Nat} {ret : Option FieldType} {wsy : List Cond} {rm : Room} {own C : String} {b : Nat} {As : List Value} {ws wc : va_W} {f : va_W → va_W} {X : Nat → State → Prop} {Qc : (Nat → Prop) → Array Value → State → Outcome → State → Prop}
theorem kfree (hD : va_D A wc) (hS : va_S A H0 H locs) (hA : ∀ q : Nat, H0.size ≤ q → A q) : ∀ q, va_A wc H.size q → A q := by
  rintro q (⟨k, e, h⟩ | h)
  · exact hD.2 k (q, e) h
  · exact hA q (Nat.le_trans hS.1 h)
/-- the world behind a call, of a callee that makes nothing: an int -/
theorem kc_i {post : Int32 → S → Prop} {w1 : S → va_W} (hr : va_Run p l e R s m args below meth c H locs cells slots mc ms (F0 m pc ls st0) rest (kQi D post w1 (va_A wc H.size) a) (va_A wc H.size)) (hP : va_P D vwCl ws H) (hD : va_D A ws) (hS : va_S A H0 H locs) (hA : ∀ q : Nat, H0.size ≤ q → A q) (J : kJ D A ws wc f) (ha : ∀ u, (w1 u).map (·.1) = wc.map (·.1))
    (kk : ∀ (r : Int32) (u : S) (H1 : Heap) (locs1 : List Loc), post r u → va_P D vwCl (f (w1 u)) H1 → va_D A (f (w1 u)) → va_S A H0 H1 locs1 → W p l e R s m args below meth c H1 locs1 (cells + mc) (slots + ms) Q (F0 m (pc + 3) ls (.int r :: rest))) : W p l e R s m args below meth c H locs cells slots Q (F0 m pc ls st0) := by
  obtain ⟨j1, j2⟩ := J H hP hD
  have hF := kfree j1.2 hS hA
  refine va_calli hr hS (fun q _ h => hF q h) hF (fun r u t H1 locs1 ht hvm hw hB hz hk hS1 => ?_)
  have hB : va_P D vwCl (w1 u) t.heap := hB
  rw [ht] at hB
  obtain ⟨z1, z2⟩ := j2 (w1 u) H1 (ha u) hB hk
  exact kk r u H1 locs1 hw z1 z2 hS1
theorem kc_l {post : Int64 → S → Prop} {w1 : S → va_W} (hr : va_Run p l e R s m args below meth c H locs cells slots mc ms (F0 m pc ls st0) rest (kQl D post w1 (va_A wc H.size) a) (va_A wc H.size)) (hP : va_P D vwCl ws H) (hD : va_D A ws) (hS : va_S A H0 H locs) (hA : ∀ q : Nat, H0.size ≤ q → A q) (J : kJ D A ws wc f) (ha : ∀ u, (w1 u).map (·.1) = wc.map (·.1))
    (kk : ∀ (r : Int64) (u : S) (H1 : Heap) (locs1 : List Loc), post r u → va_P D vwCl (f (w1 u)) H1 → va_D A (f (w1 u)) → va_S A H0 H1 locs1 → W p l e R s m args below meth c H1 locs1 (cells + mc) (slots + ms) Q (F0 m (pc + 3) ls (.long r :: rest))) : W p l e R s m args below meth c H locs cells slots Q (F0 m pc ls st0) := by
  obtain ⟨j1, j2⟩ := J H hP hD
  have hF := kfree j1.2 hS hA
  refine va_calll hr hS (fun q _ h => hF q h) hF (fun r u t H1 locs1 ht hvm hw hB hz hk hS1 => ?_)
  have hB : va_P D vwCl (w1 u) t.heap := hB
  rw [ht] at hB
  obtain ⟨z1, z2⟩ := j2 (w1 u) H1 (ha u) hB hk
  exact kk r u H1 locs1 hw z1 z2 hS1
theorem kc_v {post : S → Prop} {w1 : S → va_W} (hr : va_Run p l e R s m args below meth c H locs cells slots mc ms (F0 m pc ls st0) rest (kQv D post w1 (va_A wc H.size) a) (va_A wc H.size)) (hP : va_P D vwCl ws H) (hD : va_D A ws) (hS : va_S A H0 H locs) (hA : ∀ q : Nat, H0.size ≤ q → A q) (J : kJ D A ws wc f) (ha : ∀ u, (w1 u).map (·.1) = wc.map (·.1))
    (kk : ∀ (u : S) (H1 : Heap) (locs1 : List Loc), post u → va_P D vwCl (f (w1 u)) H1 → va_D A (f (w1 u)) → va_S A H0 H1 locs1 → W p l e R s m args below meth c H1 locs1 (cells + mc) (slots + ms) Q (F0 m (pc + 3) ls rest)) : W p l e R s m args below meth c H locs cells slots Q (F0 m pc ls st0) := by
  obtain ⟨j1, j2⟩ := J H hP hD
  have hF := kfree j1.2 hS hA
  refine va_callv hr hS (fun q _ h => hF q h) hF (fun u t H1 locs1 ht hvm hw hB hz hk hS1 => ?_)
  have hB : va_P D vwCl (w1 u) t.heap := hB
  rw [ht] at hB
  obtain ⟨z1, z2⟩ := j2 (w1 u) H1 (ha u) hB hk
  exact kk u H1 locs1 hw z1 z2 hS1
/-- the three calls -/
theorem krV (hM : kM l y wsy rm D Y wc (.ref b :: As) X Qc) (Sx : CallFix p m c cc nL s args kAL own) (cw : CallW R s args own C index y bytes maxL ret wsy rm rm.cells rm.slots n) (hXb : kXb X) (hX : ∀ U : State, U.heap = H → s.WarmedH U.vm → X H.size U) (hK : va_K D vwCl (kT Y) s) (hNs : kNs s) (hP : va_P D vwCl ws H) (hD : va_D A ws) (J : kJ D A ws wc f) (q0 : Nat) {ci : Nat} {q : vw_C} {fs : List Value} (hci : vwCl[ci]? = some q) (hcl : q.1 = C) (he : wc[q0]? = some (b, .inr (ci, fs)))
    (hlen : As.length = n) (hsize : ls.size = nL) (hstack : st0 = As.reverse ++ .ref b :: rest) (hW : (rest.map fun v => v.category).sum ≤ 8) (hdg : decode cc pc = .ok (.invokevirtual index, 3)) (hf : cells + rm.cells ≤ R.cells ∧ slots + rm.slots ≤ R.slots) :
    va_Run p l e R s m args below meth c H locs cells slots rm.cells rm.slots (F0 m pc ls st0) rest (Qc (va_A wc H.size) (Value.ref b :: As).toArray) (va_A wc H.size) := by
  obtain ⟨⟨hPc, hDc⟩, -⟩ := J H hP hD
  refine va_runV (g := F0 m pc ls st0) Sx (hM H.size) cw ⟨kPc_blind hXb _, ?_, fun U hU hw => ⟨rfl, by rw [hU], by rw [hU]; exact hPc, va_K.moved hw.alike hK, hNs.warm hw, hDc.weaken (fun _ _ _ _ => trivial), hX U hU hw⟩⟩ rfl hlen hsize hstack (lv_room hW) hdg hf
  subst hcl
  exact va_recv hK hPc hci he
theorem krS (hM : kM l y wsy rm D Y wc As X Qc) (Sx : CallFix p m c cc nL s args kAL own) (cw : CallB R s args own index y bytes maxL ret wsy rm rm.cells rm.slots n ∧ (Cond.static y).before args s = true) (hXb : kXb X) (hX : ∀ U : State, U.heap = H → s.WarmedH U.vm → X H.size U) (hK : va_K D vwCl (kT Y) s) (hNs : kNs s) (hP : va_P D vwCl ws H) (hD : va_D A ws) (J : kJ D A ws wc f)
    (hlen : As.length = n) (hsize : ls.size = nL) (hstack : st0 = As.reverse ++ rest) (hW : (rest.map fun v => v.category).sum ≤ 8) (hdg : decode cc pc = .ok (.invokestatic index, 3)) (hf : cells + rm.cells ≤ R.cells ∧ slots + rm.slots ≤ R.slots) :
    va_Run p l e R s m args below meth c H locs cells slots rm.cells rm.slots (F0 m pc ls st0) rest (Qc (va_A wc H.size) As.toArray) (va_A wc H.size) := by
  obtain ⟨⟨hPc, hDc⟩, -⟩ := J H hP hD
  exact va_runS (g := F0 m pc ls st0) Sx (hM H.size) cw ⟨kPc_blind hXb _, fun U hU hw => ⟨rfl, by rw [hU], by rw [hU]; exact hPc, va_K.moved hw.alike hK, hNs.warm hw, hDc.weaken (fun _ _ _ _ => trivial), hX U hU hw⟩⟩ rfl hlen hsize hstack (lv_room hW) hdg hf
theorem krI (hM : kM l y wsy rm D Y wc (.ref b :: As) X Qc) (Sx : CallFix p m c cc nL s args kAL own) (cw : CallB R s args own index y bytes maxL none wsy rm rm.cells rm.slots n ∧ y.name = "<init>" ∧ (Cond.instanceMethod y).before args s = true) (hXb : kXb X) (hX : ∀ U : State, U.heap = H → s.WarmedH U.vm → X H.size U) (hK : va_K D vwCl (kT Y) s) (hNs : kNs s) (hP : va_P D vwCl ws H) (hD : va_D A ws) (J : kJ D A ws wc f)
    (hlen : As.length = n) (hsize : ls.size = nL) (hstack : st0 = As.reverse ++ .ref b :: rest) (hW : (rest.map fun v => v.category).sum ≤ 8) (hdg : decode cc pc = .ok (.invokespecial index, 3)) (hf : cells + rm.cells ≤ R.cells ∧ slots + rm.slots ≤ R.slots) :
    va_Run p l e R s m args below meth c H locs cells slots rm.cells rm.slots (F0 m pc ls st0) rest (Qc (va_A wc H.size) (Value.ref b :: As).toArray) (va_A wc H.size) := by
  obtain ⟨⟨hPc, hDc⟩, -⟩ := J H hP hD
  exact va_runI (g := F0 m pc ls st0) Sx (hM H.size) cw ⟨kPc_blind hXb _, fun U hU hw => ⟨rfl, by rw [hU], by rw [hU]; exact hPc, va_K.moved hw.alike hK, hNs.warm hw, hDc.weaken (fun _ _ _ _ => trivial), hX U hU hw⟩⟩ rfl hlen hsize hstack (lv_room hW) hdg hf
theorem krSN {host : String} (hM : kM l y wsy rm D Y wc As X Qc) (Sx : CallFix p m c cc nL s args kAL own) (cw : va_CN R s args own index y host bytes maxL ret wsy rm rm.cells rm.slots n ∧ (Cond.static y).before args s = true ∧ True) (hXb : kXb X) (hX : ∀ U : State, U.heap = H → s.WarmedH U.vm → X H.size U) (hK : va_K D vwCl (kT Y) s) (hNs : kNs s) (hP : va_P D vwCl ws H) (hD : va_D A ws) (J : kJ D A ws wc f)
    (hlen : As.length = n) (hsize : ls.size = nL) (hstack : st0 = As.reverse ++ rest) (hW : (rest.map fun v => v.category).sum ≤ 8) (hdg : decode cc pc = .ok (.invokestatic index, 3)) (hf : cells + rm.cells ≤ R.cells ∧ slots + rm.slots ≤ R.slots) :
    va_Run p l e R s m args below meth c H locs cells slots rm.cells rm.slots (F0 m pc ls st0) rest (Qc (va_A wc H.size) As.toArray) (va_A wc H.size) := by
  obtain ⟨⟨hPc, hDc⟩, -⟩ := J H hP hD
  exact va_runSN (g := F0 m pc ls st0) Sx (hM H.size) cw ⟨kPc_blind hXb _, fun U hU hw => ⟨rfl, by rw [hU], by rw [hU]; exact hPc, va_K.moved hw.alike hK, hNs.warm hw, hDc.weaken (fun _ _ _ _ => trivial), hX U hU hw⟩⟩ rfl hlen hsize hstack (lv_room hW) hdg hf
theorem krIN {host : String} (hM : kM l y wsy rm D Y wc (.ref b :: As) X Qc) (Sx : CallFix p m c cc nL s args kAL own) (cw : va_CN R s args own index y host bytes maxL none wsy rm rm.cells rm.slots n ∧ y.name = "<init>" ∧ (Cond.instanceMethod y).before args s = true) (hXb : kXb X) (hX : ∀ U : State, U.heap = H → s.WarmedH U.vm → X H.size U) (hK : va_K D vwCl (kT Y) s) (hNs : kNs s) (hP : va_P D vwCl ws H) (hD : va_D A ws) (J : kJ D A ws wc f)
    (hlen : As.length = n) (hsize : ls.size = nL) (hstack : st0 = As.reverse ++ .ref b :: rest) (hW : (rest.map fun v => v.category).sum ≤ 8) (hdg : decode cc pc = .ok (.invokespecial index, 3)) (hf : cells + rm.cells ≤ R.cells ∧ slots + rm.slots ≤ R.slots) :
    va_Run p l e R s m args below meth c H locs cells slots rm.cells rm.slots (F0 m pc ls st0) rest (Qc (va_A wc H.size) (Value.ref b :: As).toArray) (va_A wc H.size) := by
  obtain ⟨⟨hPc, hDc⟩, -⟩ := J H hP hD
  exact va_runIN (g := F0 m pc ls st0) Sx (hM H.size) cw ⟨kPc_blind hXb _, fun U hU hw => ⟨rfl, by rw [hU], by rw [hU]; exact hPc, va_K.moved hw.alike hK, hNs.warm hw, hDc.weaken (fun _ _ _ _ => trivial), hX U hU hw⟩⟩ rfl hlen hsize hstack (lv_room hW) hdg hf
end KC
section KB
variable {p : Program} {l : Launch} {e : Env} {R : Room} {s : State} {m : MethodId} {args : Array Value} {below : List Frame} {meth : Method} {c : Code} {H : Heap} {locs : List Loc} {cells slots : Nat} {Q : State → Prop}
variable {cc : ByteArray} {pc : Nat} {ls : Array Slot} {rest : List Value} {D : va_G} {Y : Nat → ClassId} {A : Nat → Prop} {H0 : Heap} {ws : va_W} {a : Nat}
/-- the top of the stack under another name -/
theorem kTop {x y : Int32} (h : x = y) (k : W p l e R s m args below meth c H locs cells slots Q (F0 m pc ls (.int y :: rest))) : W p l e R s m args below meth c H locs cells slots Q (F0 m pc ls (.int x :: rest)) := by rw [h]; exact k
theorem kTopl {x y : Int64} (h : x = y) (k : W p l e R s m args below meth c H locs cells slots Q (F0 m pc ls (.long y :: rest))) : W p l e R s m args below meth c H locs cells slots Q (F0 m pc ls (.long x :: rest)) := by rw [h]; exact k
theorem kTopv {x y : Value} (h : x = y) (k : W p l e R s m args below meth c H locs cells slots Q (F0 m pc ls (y :: rest))) : W p l e R s m args below meth c H locs cells slots Q (F0 m pc ls (x :: rest)) := by rw [h]; exact k
/-- rows of ints, of a place that is known -/
theorem kiald (hx : p.tables.exec = Jvm.exec) (hb : c.code = cc) (hK : va_K D vwCl (kT Y) s) (hP : va_P D vwCl ws H) (q0 : Nat) {n : Nat} {f : Nat → Int32} (ha : ws[q0]? = some (a, .inl (Y 0, n, .inl f))) (k : Nat) {i : Int32} (hi : i = nI k) (hk : k < n) (hn : n < 2 ^ 31) (hdg : decode cc pc = .ok (.iaload, 1))
    (kk : W p l e R s m args below meth c H locs cells slots Q (F0 m (pc + 1) ls (.int (f k) :: rest))) : W p l e R s m args below meth c H locs cells slots Q (F0 m pc ls (.int i :: .ref a :: rest)) := by
  subst hi
  refine va_iald hx hb hK hP q0 0 ha rfl (vp_in_nI hk hn) hdg ?_
  rw [nI_clamp (by omega)]
  exact kk
theorem kcald (hx : p.tables.exec = Jvm.exec) (hb : c.code = cc) (hK : va_K D vwCl (kT Y) s) (hP : va_P D vwCl ws H) (q0 : Nat) {n : Nat} {f : Nat → Int32} (ha : ws[q0]? = some (a, .inl (Y 1, n, .inl f))) (k : Nat) {i : Int32} (hi : i = nI k) (hk : k < n) (hn : n < 2 ^ 31) (hdg : decode cc pc = .ok (.caload, 1))
    (kk : W p l e R s m args below meth c H locs cells slots Q (F0 m (pc + 1) ls (.int (f k) :: rest))) : W p l e R s m args below meth c H locs cells slots Q (F0 m pc ls (.int i :: .ref a :: rest)) := by
  subst hi
  refine va_cald hx hb hK hP q0 1 ha rfl (vp_in_nI hk hn) hdg ?_
  rw [nI_clamp (by omega)]
  exact kk
theorem kiast (hx : p.tables.exec = Jvm.exec) (hb : c.code = cc) (hK : va_K D vwCl (kT Y) s) (hP : va_P D vwCl ws H) (hD : va_D A ws) (hS : va_S A H0 H locs) (q0 : Nat) {n : Nat} {f : Nat → Int32} (ha : ws[q0]? = some (a, .inl (Y 0, n, .inl f))) (k : Nat) {i x : Int32} (hi : i = nI k) (hk : k < n) (hn : n < 2 ^ 31) (hdg : decode cc pc = .ok (.iastore, 1)) (ws1 : va_W) (hw : ws.set q0 (a, .inl (Y 0, n, .inl (upd f k x))) = ws1)
    (kk : ∀ (H1 : Heap) (locs1 : List Loc), va_P D vwCl ws1 H1 → va_D A ws1 → va_S A H0 H1 locs1 → W p l e R s m args below meth c H1 locs1 cells slots Q (F0 m (pc + 1) ls rest)) : W p l e R s m args below meth c H locs cells slots Q (F0 m pc ls (.int x :: .int i :: .ref a :: rest)) := by
  subst hi
  subst hw
  refine va_iast hx hb hK hP hD hS q0 0 ha rfl (vp_in_nI hk hn) hdg (fun H1 locs1 h1 h2 h3 => ?_)
  rw [nI_clamp (by omega)] at h1 h2
  exact kk H1 locs1 h1 h2 h3
theorem kcast (hx : p.tables.exec = Jvm.exec) (hb : c.code = cc) (hK : va_K D vwCl (kT Y) s) (hP : va_P D vwCl ws H) (hD : va_D A ws) (hS : va_S A H0 H locs) (q0 : Nat) {n : Nat} {f : Nat → Int32} (ha : ws[q0]? = some (a, .inl (Y 1, n, .inl f))) (k : Nat) {i x : Int32} (hi : i = nI k) (hk : k < n) (hn : n < 2 ^ 31) (hdg : decode cc pc = .ok (.castore, 1)) (hc : vp_nar .char x = x) (ws1 : va_W) (hw : ws.set q0 (a, .inl (Y 1, n, .inl (upd f k x))) = ws1)
    (kk : ∀ (H1 : Heap) (locs1 : List Loc), va_P D vwCl ws1 H1 → va_D A ws1 → va_S A H0 H1 locs1 → W p l e R s m args below meth c H1 locs1 cells slots Q (F0 m (pc + 1) ls rest)) : W p l e R s m args below meth c H locs cells slots Q (F0 m pc ls (.int x :: .int i :: .ref a :: rest)) := by
  subst hi
  subst hw
  refine va_cast hx hb hK hP hD hS q0 1 ha rfl (vp_in_nI hk hn) hdg (fun H1 locs1 h1 h2 h3 => ?_)
  rw [nI_clamp (by omega)] at h1 h2
  first
    | (rw [hc] at h1 h2; exact kk H1 locs1 h1 h2 h3)
    | exact kk H1 locs1 h1 h2 h3
theorem kalen (hx : p.tables.exec = Jvm.exec) (hb : c.code = cc) (hK : va_K D vwCl (kT Y) s) (hP : va_P D vwCl ws H) (q0 : Nat) {n : Nat} {f : Nat → Int32} (ha : ws[q0]? = some (a, .inl (Y 0, n, .inl f))) (hdg : decode cc pc = .ok (.arraylength, 1))
    (kk : W p l e R s m args below meth c H locs cells slots Q (F0 m (pc + 1) ls (.int (nI n) :: rest))) : W p l e R s m args below meth c H locs cells slots Q (F0 m pc ls (.ref a :: rest)) := va_alen hx hb hK hP q0 0 ha rfl rfl hdg kk
end KB
/-- a truth as the machine has it -/
def kb (P : Prop) [Decidable P] : Int32 := if P then 1 else 0
theorem kb_t {P : Prop} [Decidable P] (h : P) : kb P = 1 := if_pos h
theorem kb_f {P : Prop} [Decidable P] (h : ¬ P) : kb P = 0 := if_neg h
theorem kb_01 (P : Prop) [Decidable P] : kb P = 0 ∨ kb P = 1 := by
  unfold kb
  split
  · exact Or.inr rfl
  · exact Or.inl rfl
def kmax (x y : Int32) : Int32 := if x < y then y else x
def kmin (x y : Int32) : Int32 := if y < x then y else x
/-- a mill's numbers: row q, place k; the scalars are row 19 -/
abbrev kN : Type := Nat → Nat → Int32
def sM (M : kN) (q k : Nat) (v : Int32) : kN := fun q' => if q' = q then upd (M q) k v else M q'
def sR (M : kN) (q : Nat) (r : Nat → Int32) : kN := fun q' => if q' = q then r else M q'
/-- a mill's cells -/
def wM (Y : Nat → ClassId) (a : Nat → Nat) (M : kN) : va_W :=
  [(a 0, .inr (3, [.ref (a 1), .ref (a 2), .ref (a 8), .ref (a 17), .ref (a 20), .int (M 19 0), .int (M 19 1), .int (M 19 2), .int (M 19 3)])),
   (a 1, .inl (Y 0, 7, .inl (M 0))),
   (a 2, .inr (1, [.ref (a 3), .ref (a 4), .ref (a 5), .ref (a 6), .ref (a 7)])),
   (a 3, .inl (Y 0, 6, .inl (M 1))), (a 4, .inl (Y 0, 6, .inl (M 2))), (a 5, .inl (Y 0, 6, .inl (M 3))), (a 6, .inl (Y 0, 6, .inl (M 4))), (a 7, .inl (Y 0, 6, .inl (M 5))),
   (a 8, .inr (0, [.ref (a 9), .ref (a 10), .ref (a 11), .ref (a 12), .ref (a 13), .ref (a 14), .ref (a 15), .ref (a 16), .int (M 19 4)])),
   (a 9, .inl (Y 0, 30, .inl (M 6))), (a 10, .inl (Y 0, 30, .inl (M 7))), (a 11, .inl (Y 0, 30, .inl (M 8))), (a 12, .inl (Y 0, 30, .inl (M 9))), (a 13, .inl (Y 0, 30, .inl (M 10))), (a 14, .inl (Y 0, 30, .inl (M 11))), (a 15, .inl (Y 0, 30, .inl (M 12))), (a 16, .inl (Y 0, 30, .inl (M 13))),
   (a 17, .inr (5, [.ref (a 18), .ref (a 19), .int (M 19 5)])),
   (a 18, .inl (Y 0, 5, .inl (M 14))), (a 19, .inl (Y 0, 5, .inl (M 15))),
   (a 20, .inr (6, [.ref (a 21), .ref (a 22), .ref (a 23), .int (M 19 6), .int (M 19 7)])),
   (a 21, .inl (Y 0, 400, .inl (M 16))), (a 22, .inl (Y 0, 400, .inl (M 17))), (a 23, .inl (Y 0, 400, .inl (M 18)))]
/-- the reference's cells: rows 0 now, 1 then, 2 past, 3 slots, 4 held, 5 pad, 6 orders; the scalars are row 7 -/
def wR (Y : Nat → ClassId) (b : Nat → Nat) (M : kN) : va_W :=
  [(b 0, .inr (8, [.ref (b 1), .ref (b 2), .ref (b 3), .int (M 7 0), .ref (b 4), .ref (b 5), .ref (b 6), .int (M 7 1), .int (M 7 2), .ref (b 7), .int (M 7 3)])),
   (b 1, .inl (Y 0, 1497, .inl (M 0))), (b 2, .inl (Y 0, 1497, .inl (M 1))), (b 3, .inl (Y 0, 8982, .inl (M 2))), (b 4, .inl (Y 0, 2994, .inl (M 3))), (b 5, .inl (Y 2, 2, .inl (M 4))), (b 6, .inl (Y 0, 80, .inl (M 5))), (b 7, .inl (Y 0, 140, .inl (M 6)))]
theorem kJ_nil {D : va_G} {A : Nat → Prop} {ws : va_W} : kJ D A ws [] (fun _ => ws) := fun _ hP hD => ⟨⟨fun k q h => by simp at h, ⟨fun i j p q h => by simp at h, fun k q h => by simp at h⟩⟩, fun w1 H1 _ _ hk => ⟨kP_stay (A := A) (a := []) hP (fun i j p q h => by simp at h) hk, hD⟩⟩
