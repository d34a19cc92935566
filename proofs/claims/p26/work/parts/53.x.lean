/-- a mill as it is made -/
def cNew : kN := fun q => if q = 0 then upd (upd (upd (upd (upd (upd (upd (fun _ => 0) 0 4) 1 10) 2 60) 3 100) 4 8) 5 5) 6 30 else (if q = 1 then upd (upd (upd (upd (upd (upd (fun _ => 0) 0 100) 1 100) 2 100) 3 100) 4 100) 5 100 else fun _ => 0)
