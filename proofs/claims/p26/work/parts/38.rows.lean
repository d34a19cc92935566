abbrev rX3_changeSetting : Room := kR 1 0 0 22
abbrev rX4_append : Room := kR 2 0 0 46
abbrev rX4_countSigns : Room := kR 1 0 0 22
abbrev rX4_digitFollows : Room := kR 1 0 0 22
abbrev rX4_empty : Room := kR 0 0 0 0
abbrev rX4_findFault : Room := kR 6 0 0 142
abbrev rX4_formOf : Room := kR 0 0 0 0
abbrev rX4_keepValue : Room := kR 0 0 0 0
abbrev rX4_readDigit : Room := kR 2 0 0 42
abbrev rX4_readNumber : Room := kR 2 0 0 42
abbrev rX4_readOrder : Room := kR 5 0 0 120
abbrev rX4_readPart : Room := kR 3 0 0 64
abbrev rX4_readSign : Room := kR 0 0 0 0
abbrev rX4_startReading : Room := kR 0 0 0 0
theorem gfX4_9 {p : Program} {l : Launch} {e : Env} {R : Room} {s : State} {m : MethodId} {args : Array Value} {below : List Frame} {meth : Method} {c : Code} {H : Heap} {locs : List Loc} {cells slots : Nat} {Q : State → Prop} {cc : ByteArray} {pc : Nat} {ls : Array Slot} {rest : List Value} {D : va_G} {Y : Nat → ClassId} {ws : va_W} {a : Nat} (hx : p.tables.exec = Jvm.exec) (hb : c.code = cc) (hta : ∀ w ∈ kAL, w.before args s = true) (hown : s.vm.findClass RX4 = some m.cls) (hK : va_K D vwCl (kT Y) s) (hP : va_P D vwCl ws H) (q0 : Nat) {fs : List Value} {v : Value} (he : ws[q0]? = some (a, .inr (4, fs))) (hv : fs[0]? = some v) (hdg : decode cc pc = .ok (.getfield 9, 3)) (kk : W p l e R s m args below meth c H locs cells slots Q (F0 m (pc + 3) ls (v :: rest))) : W p l e R s m args below meth c H locs cells slots Q (F0 m pc ls (.ref a :: rest)) :=
  va_get (D := D) (ci := 4) (C := RX4) (T := TX4) (N := 6) hx hb hta inA4 hown hK hP q0 he rfl 0 (by decide) (hta _ al_97) (fun _ h9 => h9) hv hdg kk
theorem gfX4_15 {p : Program} {l : Launch} {e : Env} {R : Room} {s : State} {m : MethodId} {args : Array Value} {below : List Frame} {meth : Method} {c : Code} {H : Heap} {locs : List Loc} {cells slots : Nat} {Q : State → Prop} {cc : ByteArray} {pc : Nat} {ls : Array Slot} {rest : List Value} {D : va_G} {Y : Nat → ClassId} {ws : va_W} {a : Nat} (hx : p.tables.exec = Jvm.exec) (hb : c.code = cc) (hta : ∀ w ∈ kAL, w.before args s = true) (hown : s.vm.findClass RX4 = some m.cls) (hK : va_K D vwCl (kT Y) s) (hP : va_P D vwCl ws H) (q0 : Nat) {fs : List Value} {v : Value} (he : ws[q0]? = some (a, .inr (4, fs))) (hv : fs[4]? = some v) (hdg : decode cc pc = .ok (.getfield 15, 3)) (kk : W p l e R s m args below meth c H locs cells slots Q (F0 m (pc + 3) ls (v :: rest))) : W p l e R s m args below meth c H locs cells slots Q (F0 m pc ls (.ref a :: rest)) :=
  va_get (D := D) (ci := 4) (C := RX4) (T := TX4) (N := 6) hx hb hta inA4 hown hK hP q0 he rfl 4 (by decide) (hta _ al_98) (fun _ h9 => h9) hv hdg kk
