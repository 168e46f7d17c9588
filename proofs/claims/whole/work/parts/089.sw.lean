theorem sw_lk2 {x : Int32} {o0 o1 dflt : Int} (h0 : ¬ x = 0) (h1 : ¬ x = 1) : Op.lookupswitch.offset [(0, o0), (1, o1)] dflt x.toInt = dflt := by
  have a0 : ¬ x.toInt = 0 := sw_ne h0
  have a1 : ¬ x.toInt = 1 := sw_ne h1
  rw [Op.lookupswitch.offset_cons, if_neg (fun h => a0 h.symm), Op.lookupswitch.offset_cons, if_neg (fun h => a1 h.symm)]
  rfl

