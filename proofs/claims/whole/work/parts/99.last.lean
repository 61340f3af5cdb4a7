theorem z1 : okM 24 = true := by decide +kernel
theorem z2 : (List.range' 184 12).all okZ = true := by decide +kernel
theorem z3 : (List.range' 184 12).all okM = true := by decide +kernel
