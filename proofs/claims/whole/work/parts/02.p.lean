theorem p_trial : (lw_tbl.filter goodWord).length = 1200 := by decide +kernel
theorem p_trial2 : tables_1[21]? = some (Cond.instantiable "StubbornBridges$World" 14) := by decide +kernel
