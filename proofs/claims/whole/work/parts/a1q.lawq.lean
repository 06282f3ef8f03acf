set_option maxRecDepth 100000 in
theorem ds_LawR_eq : ds_c_LawR = ds_c_Law_law.filter (fun q => match q.2.1 with | .dreturn => false | _ => true) := rfl
set_option maxRecDepth 100000 in
theorem ds_LawE_eq : ds_c_LawE = ds_c_Law_law.filter (fun q => match q.2.1 with | .jsr _ => false | _ => true) := rfl
