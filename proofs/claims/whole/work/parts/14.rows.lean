abbrev rX8_brings : Room := kR 1 0 0 22
abbrev rX8_crushes : Room := kR 2 0 0 45
abbrev rX8_how : Room := kR 1 0 0 22
abbrev rX8_in : Room := kR 0 0 0 0
abbrev rX8_inYard : Room := kR 0 0 0 0
abbrev rX8_isAhead : Room := kR 1 0 0 22
abbrev rX8_isDay : Room := kR 1 0 0 22
abbrev rX8_isGrower : Room := kR 1 0 0 22
abbrev rX8_isStopped : Room := kR 1 0 0 22
abbrev rX8_least : Room := kR 0 0 0 0
abbrev rX8_loses : Room := kR 2 0 0 43
abbrev rX8_mills : Room := kR 3 0 0 70
abbrev rX8_nextField : Room := kR 2 0 0 45
abbrev rX8_of : Room := kR 0 0 0 0
abbrev rX8_purity : Room := kR 1 0 0 22
theorem cwX8_32 {R : Room} {s : State} {args : Array Value} (hta : ∀ w ∈ kAL, w.before args s = true) (hR : rX8_in.frames + 1 ≤ R.frames ∧ 8 + (3 + 11) + rX8_in.locals ≤ R.locals) : CallB R s args RX8 32 yX8_in cX8_in 3 (some .boolean) wX8_in rX8_in rX8_in.cells rX8_in.slots 3 ∧ (Cond.static yX8_in).before args s = true := cwS 3 hta (al_1 al_175 (al_1 al_176 (al_1 al_15 gyX8_in))) rfl rfl rfl (by decide +kernel) hR
theorem cwX8_47 {R : Room} {s : State} {args : Array Value} (hta : ∀ w ∈ kAL, w.before args s = true) (hR : rX8_of.frames + 1 ≤ R.frames ∧ 8 + (3 + 11) + rX8_of.locals ≤ R.locals) : CallB R s args RX8 47 yX8_of cX8_of 3 (some .int) wX8_of rX8_of rX8_of.cells rX8_of.slots 3 ∧ (Cond.static yX8_of).before args s = true := cwS 3 hta (al_1 al_409 (al_1 al_410 (al_1 al_15 gyX8_of))) rfl rfl rfl (by decide +kernel) hR
theorem cwX8_51 {R : Room} {s : State} {args : Array Value} (hta : ∀ w ∈ kAL, w.before args s = true) (hR : rX8_how.frames + 1 ≤ R.frames ∧ 8 + (2 + 11) + rX8_how.locals ≤ R.locals) : CallB R s args RX8 51 yX8_how cX8_how 2 (some .int) wX8_how rX8_how rX8_how.cells rX8_how.slots 2 ∧ (Cond.static yX8_how).before args s = true := cwS 2 hta (al_1 al_406 (al_1 al_407 (al_1 al_15 gyX8_how))) rfl rfl rfl (by decide +kernel) hR
theorem cwX8_55 {R : Room} {s : State} {args : Array Value} (hta : ∀ w ∈ kAL, w.before args s = true) (hR : rX8_isAhead.frames + 1 ≤ R.frames ∧ 8 + (4 + 11) + rX8_isAhead.locals ≤ R.locals) : CallB R s args RX8 55 yX8_isAhead cX8_isAhead 4 (some .boolean) wX8_isAhead rX8_isAhead rX8_isAhead.cells rX8_isAhead.slots 3 ∧ (Cond.static yX8_isAhead).before args s = true := cwS 3 hta (al_1 al_415 (al_1 al_416 (al_1 al_15 gyX8_isAhead))) rfl rfl rfl (by decide +kernel) hR
theorem cwX8_59 {R : Room} {s : State} {args : Array Value} (hta : ∀ w ∈ kAL, w.before args s = true) (hR : rX8_inYard.frames + 1 ≤ R.frames ∧ 8 + (3 + 11) + rX8_inYard.locals ≤ R.locals) : CallB R s args RX8 59 yX8_inYard cX8_inYard 3 (some .int) wX8_inYard rX8_inYard rX8_inYard.cells rX8_inYard.slots 1 ∧ (Cond.static yX8_inYard).before args s = true := cwS 1 hta (al_1 al_418 (al_1 al_419 (al_1 al_15 gyX8_inYard))) rfl rfl rfl (by decide +kernel) hR
theorem cwX8_63 {R : Room} {s : State} {args : Array Value} (hta : ∀ w ∈ kAL, w.before args s = true) (hR : rX8_least.frames + 1 ≤ R.frames ∧ 8 + (2 + 11) + rX8_least.locals ≤ R.locals) : CallB R s args RX8 63 yX8_least cX8_least 2 (some .int) wX8_least rX8_least rX8_least.cells rX8_least.slots 2 ∧ (Cond.static yX8_least).before args s = true := cwS 2 hta (al_1 al_424 (al_1 al_425 (al_1 al_15 gyX8_least))) rfl rfl rfl (by decide +kernel) hR
theorem cwX8_67 {R : Room} {s : State} {args : Array Value} (hta : ∀ w ∈ kAL, w.before args s = true) (hR : rX8_purity.frames + 1 ≤ R.frames ∧ 8 + (4 + 11) + rX8_purity.locals ≤ R.locals) : CallB R s args RX8 67 yX8_purity cX8_purity 4 (some .int) wX8_purity rX8_purity rX8_purity.cells rX8_purity.slots 2 ∧ (Cond.static yX8_purity).before args s = true := cwS 2 hta (al_1 al_436 (al_1 al_437 (al_1 al_15 gyX8_purity))) rfl rfl rfl (by decide +kernel) hR
theorem cwX8_70 {R : Room} {s : State} {args : Array Value} (hta : ∀ w ∈ kAL, w.before args s = true) (hR : rX8_crushes.frames + 1 ≤ R.frames ∧ 8 + (6 + 11) + rX8_crushes.locals ≤ R.locals) : CallB R s args RX8 70 yX8_crushes cX8_crushes 6 none wX8_crushes rX8_crushes rX8_crushes.cells rX8_crushes.slots 3 ∧ (Cond.static yX8_crushes).before args s = true := cwS 3 hta (al_1 al_433 (al_1 al_434 (al_1 al_15 gyX8_crushes))) rfl rfl rfl (by decide +kernel) hR
