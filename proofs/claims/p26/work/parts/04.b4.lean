set_option maxRecDepth 100000 in
theorem al_5008 : Cond.code yL_tonnes cL_tonnes 12 (some .boolean) ∈ kAL := al_in (List.mem_of_getElem? (i := 268) rfl) rfl
set_option maxRecDepth 100000 in
theorem al_5014 : Cond.code yL_looks cL_looks 5 (some .boolean) ∈ kAL := al_in (List.mem_of_getElem? (i := 316) rfl) rfl
set_option maxRecDepth 100000 in
theorem al_5028 : Cond.code yL_act cL_act 7 (some .int) ∈ kAL := al_in (List.mem_of_getElem? (i := 444) rfl) rfl
