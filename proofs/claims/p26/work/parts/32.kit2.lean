/-! what the class has that nobody writes: the forms of its orders, its settings' bounds, the library's own statics -/
def kLen : List Nat := [8, 4, 6, 4, 2, 0]
def kByt : List (List Int32) := [[102, 68, 58, 78, 37, 78, 64, 78], [113, 68, 61, 78], [108, 68, 62, 68, 61, 78], [115, 78, 45, 78], [100, 78], []]
def kTx (i : Nat) : String := ["fD:N%N@N", "qD=N", "lD>D=N", "sN-N", "dN", ""].getD i ""
def kLo : List Int32 := [0, 1, 1, 0, 0, 1, 0]
def kHi : List Int32 := [20, 30, 200, 400, 100, 20, 999]
def kE (_ad av : Nat → Nat) (A : Nat → Prop) (U : State) (H : Heap) : Prop :=
  True ∧ True ∧ True ∧ True ∧ (va_Z RX3 "LEAST" "[I" (.ref (av 6)) A U H ∧ va_T .int (av 6) 7 (fun j => .int (kLo.getD j 0)) A U H) ∧ (va_Z RX3 "MOST" "[I" (.ref (av 7)) A U H ∧ va_T .int (av 7) 7 (fun j => .int (kHi.getD j 0)) A U H)
theorem kE.kept {ad av : Nat → Nat} {A : Nat → Prop} {U : State} {H H1 : Heap} (h : kE ad av A U H) (hq : ∀ a : Nat, a < H.size → ¬ A a → H1[a]? = H[a]?) : kE ad av A U H1 := ⟨trivial, trivial, trivial, trivial, ⟨h.2.2.2.2.1.1.kept hq, h.2.2.2.2.1.2.kept hq⟩, ⟨h.2.2.2.2.2.1.kept hq, h.2.2.2.2.2.2.kept hq⟩⟩
theorem kE.narrow {ad av : Nat → Nat} {A B : Nat → Prop} {U : State} {H : Heap} (h : kE ad av A U H) (hq : ∀ q, B q → A q) : kE ad av B U H := ⟨trivial, trivial, trivial, trivial, ⟨h.2.2.2.2.1.1.narrow hq, h.2.2.2.2.1.2.narrow hq⟩, ⟨h.2.2.2.2.2.1.narrow hq, h.2.2.2.2.2.2.narrow hq⟩⟩
theorem kE.to {ad av : Nat → Nat} {A : Nat → Prop} {u U : State} {H : Heap} (h : kE ad av A u H) (hvm : u.vm.Alike U.vm) (_hR : ∀ (k a : Nat) (tx : String), vk_R RX4 k tx a u → vk_R RX4 k tx a U) : kE ad av A U H := ⟨trivial, trivial, trivial, trivial, ⟨h.2.2.2.2.1.1.moved hvm, h.2.2.2.2.1.2.moved hvm⟩, ⟨h.2.2.2.2.2.1.moved hvm, h.2.2.2.2.2.2.moved hvm⟩⟩
/-- of a start: all of it lies under the base, and what is made lies above -/
def kX (base : Nat) (ad av : Nat → Nat) : Nat → State → Prop := fun sz U => base ≤ sz ∧ kE ad av (fun q => base ≤ q) U U.heap
theorem kXb_E {base : Nat} {ad av : Nat → Nat} : kXb (kX base ad av) := fun _ a U g mk h => ⟨h.1, h.2.to (U := U.calling g mk a) (Vm.Alike.refl U.vm) (fun _ _ _ z => vk_R.same (u := U) (U := U.calling g mk a) rfl z)⟩
theorem kX_go {base : Nat} {ad av : Nat → Nat} {A : Nat → Prop} {s : State} {H : Heap} {locs : List Loc} (h : kX base ad av s.heap.size s) (hS : va_S A s.heap H locs) (hA : ∀ q, A q → base ≤ q) : ∀ U : State, U.heap = H → s.WarmedH U.vm → kX base ad av H.size U := fun U hU hw => ⟨Nat.le_trans h.1 hS.1, by
  rw [hU]
  exact (h.2.kept (fun q h1 h2 => hS.2.1 q h1 (fun z => h2 (hA q z)))).to hw.alike (fun _ _ _ z => z.warm hw)⟩
theorem kAb {A : Nat → Prop} {base : Nat} {ws : va_W} {sz : Nat} (hA2 : ∀ q, A q → (∃ (k : Nat) (e : va_E), ws[k]? = some (q, e)) ∨ sz ≤ q) (h : base ≤ sz) (hw : ∀ c ∈ ws.map (·.1), base ≤ c) : ∀ q, A q → base ≤ q := by
  intro q hq
  rcases hA2 q hq with ⟨k, e, h1⟩ | h1
  · exact hw q (List.mem_map.mpr ⟨_, List.mem_of_getElem? h1, rfl⟩)
  · omega
set_option maxHeartbeats 4000000 in
theorem kentryE {l : Launch} {y : MethodName} {wsy : List Cond} {rm : Room} {D : va_G} {Y : Nat → ClassId} {ws : va_W} {av : List Value} {X : Nat → State → Prop} {Qc : (Nat → Prop) → Array Value → State → Outcome → State → Prop} {cc : ByteArray} {maxL : Nat} {ret : Option FieldType}
    (hy : plainName y.cls = true) (hw : wsy = Cond.code y cc maxL ret :: kAL) (hlen : (lg_sl av).length ≤ maxL)
    (body : ∀ (p : Program) (e : Env) (s : State) (m : MethodId) (args : Array Value) (below : List Frame) (meth : Method) (c : Code) (A : Nat → Prop) (Q : State → Prop) (ls : Array Slot),
      (∀ q, A q → (∃ (k : Nat) (e : va_E), ws[k]? = some (q, e)) ∨ s.heap.size ≤ q) → Q = MQ below (Qc A) args s rm.cells rm.slots A → p.tables.exec = Jvm.exec → c.code = cc → meth.sig.returnType = ret → meth.locks = false → c.maxLocals = maxL → s.vm.findClass y.cls = some m.cls → meth.name = y.name →
      (∀ w ∈ kAL, w.before args s = true) → (∀ q : Nat, s.heap.size ≤ q → A q) → X s.heap.size s → va_K D vwCl (kT Y) s → kNs s → va_P D vwCl ws s.heap → va_D A ws → va_S A s.heap s.heap [] → lv_has ls maxL (lv_args 0 av) →
      W p l e rm s m args below meth c s.heap [] 0 0 Q (F0 m 0 ls [])) : kM l y wsy rm D Y ws av X Qc := by
  intro sz
  refine Met.ofW (cc := cc) (maxL := maxL) (ret := ret) hy hw ?_
  intro p e s m args below meth c s₁ B hml hv
  obtain ⟨rfl, hsz, hP, hK, hNs, hD0, hX⟩ := hv
  subst hsz
  have hts := atoms_spec (ws := wsy) B.pre
  have hD := hD0.self (sz := s.heap.size)
  have hl := lv_entry av (n := maxL) hlen
  rw [lg_entry_eq]
  exact body p e s m av.toArray below meth c (va_A ws s.heap.size) _ _ (fun q h => h) rfl B.exec B.bytes B.returns B.notSynchronized hml (findClass_of_methodNamed B.named) (name_of_methodNamed B.named B.method).1 (fun w h => hts w (by rw [hw]; exact List.mem_cons_of_mem _ h)) (fun q h => Or.inr h) hX hK hNs hP hD va_S.rf hl
/-- an answer that is a cell that is known -/
abbrev kQr {S : Type} (D : va_G) (post : S → Prop) (ar : S → Nat) (w1 : S → va_W) : (Nat → Prop) → Array Value → State → Outcome → State → Prop := fun A => va_Qr post (fun u a t => a = ar u ∧ va_P D vwCl (w1 u) t.heap) A
section K2
variable {p : Program} {l : Launch} {e : Env} {R : Room} {s : State} {m : MethodId} {args : Array Value} {below : List Frame} {meth : Method} {c : Code} {H : Heap} {locs : List Loc} {cells slots : Nat} {Q : State → Prop}
variable {cc : ByteArray} {pc : Nat} {ls : Array Slot} {rest st0 : List Value} {D : va_G} {Y : Nat → ClassId} {A : Nat → Prop} {H0 : Heap} {S : Type} {a : Array Value} {mc ms : Nat}
variable {y : MethodName} {bytes : ByteArray} {maxL nL n index : Nat} {ret : Option FieldType} {wsy : List Cond} {rm : Room} {own C : String} {b : Nat} {As : List Value} {ws wc : va_W} {f : va_W → va_W} {X : Nat → State → Prop} {Qc : (Nat → Prop) → Array Value → State → Outcome → State → Prop}
theorem knret {post : Int32 → S → Prop} {w1 : S → va_W} {v : Int32} {ty : FieldType} (u : S) (hQ : Q = MQ below (kQi D post w1 A) args s cells slots A) (hx : p.tables.exec = Jvm.exec) (hb : c.code = cc) (hr : meth.sig.returnType = some ty) (hlocks : meth.locks = false) (hP : va_P D vwCl (w1 u) H) (hS : va_S A s.heap H locs) (hdg : decode cc pc = .ok (.ireturn, 1)) (hn : narrow ty (.int v) = .int v) (hpost : post v u) : W p l e R s m args below meth c H locs cells slots Q (F0 m pc ls [.int v]) := by
  rw [hQ]
  exact W.zret hx hb hr hn (fun t ht hW => ⟨⟨v, u, rfl, hpost, by show va_P D vwCl (w1 u) t.heap; rw [ht]; exact hP⟩, hS.F ht⟩) hS.2.2 hdg hlocks
theorem karet {post : S → Prop} {ar : S → Nat} {w1 : S → va_W} {v : Nat} {nm : String} (u : S) (hQ : Q = MQ below (kQr D post ar w1 A) args s cells slots A) (hx : p.tables.exec = Jvm.exec) (hb : c.code = cc) (hr : meth.sig.returnType = some (.object nm)) (hlocks : meth.locks = false) (hP : va_P D vwCl (w1 u) H) (hS : va_S A s.heap H locs) (hdg : decode cc pc = .ok (.areturn, 1)) (hv : v = ar u) (hpost : post u) : W p l e R s m args below meth c H locs cells slots Q (F0 m pc ls [.ref v]) := by
  rw [hQ]
  exact W.aret hx hb hr (Or.inl ⟨_, rfl⟩) (Or.inr ⟨_, rfl⟩) (fun t ht hW => ⟨⟨u, v, rfl, hpost, hv, by rw [ht]; exact hP⟩, hS.F ht⟩) hS.2.2 hdg hlocks
theorem kc_r {post : S → Prop} {ar : S → Nat} {w1 : S → va_W} (hr : va_Run p l e R s m args below meth c H locs cells slots mc ms (F0 m pc ls st0) rest (kQr D post ar w1 (va_A wc H.size) a) (va_A wc H.size)) (hP : va_P D vwCl ws H) (hD : va_D A ws) (hS : va_S A H0 H locs) (hA : ∀ q : Nat, H0.size ≤ q → A q) (J : kJ D A ws wc f) (ha : ∀ u, (w1 u).map (·.1) = wc.map (·.1))
    (kk : ∀ (u : S) (H1 : Heap) (locs1 : List Loc), post u → va_P D vwCl (f (w1 u)) H1 → va_D A (f (w1 u)) → va_S A H0 H1 locs1 → W p l e R s m args below meth c H1 locs1 (cells + mc) (slots + ms) Q (F0 m (pc + 3) ls (.ref (ar u) :: rest))) : W p l e R s m args below meth c H locs cells slots Q (F0 m pc ls st0) := by
  obtain ⟨j1, j2⟩ := J H hP hD
  have hF := kfree j1.2 hS hA
  refine va_callr hr hS (fun q _ h => hF q h) hF (fun u ra t H1 locs1 ht hvm hw hB hz hk hS1 => ?_)
  obtain ⟨h1, hB⟩ := hB
  subst h1
  rw [ht] at hB
  obtain ⟨z1, z2⟩ := j2 (w1 u) H1 (ha u) hB hk
  exact kk u H1 locs1 hw z1 z2 hS1
/-- a call on an object that is no cell of the world -/
theorem krVE (hM : kM l y wsy rm D Y wc (.ref b :: As) X Qc) (Sx : CallFix p m c cc nL s args kAL own) (cw : CallW R s args own C index y bytes maxL ret wsy rm rm.cells rm.slots n) (hXb : kXb X) (hX : ∀ U : State, U.heap = H → s.WarmedH U.vm → X H.size U) (hK : va_K D vwCl (kT Y) s) (hNs : kNs s) (hP : va_P D vwCl ws H) (hD : va_D A ws) (J : kJ D A ws wc f) (hrec : ∃ cell : Cell, H[b]? = some cell ∧ cell.vm.isStatics = false ∧ s.vm.findClass C = some cell.cls)
    (hlen : As.length = n) (hsize : ls.size = nL) (hstack : st0 = As.reverse ++ .ref b :: rest) (hW : (rest.map fun v => v.category).sum ≤ 8) (hdg : decode cc pc = .ok (.invokevirtual index, 3)) (hf : cells + rm.cells ≤ R.cells ∧ slots + rm.slots ≤ R.slots) :
    va_Run p l e R s m args below meth c H locs cells slots rm.cells rm.slots (F0 m pc ls st0) rest (Qc (va_A wc H.size) (Value.ref b :: As).toArray) (va_A wc H.size) := by
  obtain ⟨⟨hPc, hDc⟩, -⟩ := J H hP hD
  exact va_runV (g := F0 m pc ls st0) Sx (hM H.size) cw ⟨kPc_blind hXb _, hrec, fun U hU hw => ⟨rfl, by rw [hU], by rw [hU]; exact hPc, va_K.moved hw.alike hK, hNs.warm hw, hDc.weaken (fun _ _ _ _ => trivial), hX U hU hw⟩⟩ rfl hlen hsize hstack (lv_room hW) hdg hf
end K2
/-- the pad's cells -/
def wP (Y : Nat → ClassId) (d : Nat → Nat) (P : Nat → Int32) (n a : Nat) (kd : Int32) (V : Nat → Int32) (vc : Nat) : va_W :=
  [(d 0, .inr (4, [.ref (d 1), .int (nI n), .int (nI a), .int kd, .ref (d 2), .int (nI vc)])), (d 1, .inl (Y 1, 80, .inl P)), (d 2, .inl (Y 0, 4, .inl V))]
theorem kB0 {base : Nat} : ∀ c ∈ (([] : va_W).map (·.1)), base ≤ c := fun c h => by simp at h
theorem kBP {base : Nat} {Y : Nat → ClassId} {d : Nat → Nat} {P : Nat → Int32} {n a : Nat} {kd : Int32} {V : Nat → Int32} {vc : Nat} (h : ∀ i, base ≤ d i) : ∀ c ∈ (wP Y d P n a kd V vc).map (·.1), base ≤ c := by
  intro c hc
  simp only [wP, List.map_cons, List.map_nil, List.mem_cons, List.not_mem_nil, or_false] at hc
  rcases hc with rfl | rfl | rfl <;> exact h _
theorem kBM {base : Nat} {Y : Nat → ClassId} {a : Nat → Nat} {M : kN} (h : ∀ i, base ≤ a i) : ∀ c ∈ (wM Y a M).map (·.1), base ≤ c := by
  intro c hc
  simp only [wM, List.map_cons, List.map_nil, List.mem_cons, List.not_mem_nil, or_false] at hc
  rcases hc with rfl | rfl | rfl | rfl | rfl | rfl | rfl | rfl | rfl | rfl | rfl | rfl | rfl | rfl | rfl | rfl | rfl | rfl | rfl | rfl | rfl | rfl | rfl | rfl <;> exact h _
