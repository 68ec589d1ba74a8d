/-! each method's list against its bytes -/
theorem ok_70 : (List.range' 70 10).all mj_okb = true := by decide +kernel
theorem ok_80 : (List.range' 80 10).all mj_okb = true := by decide +kernel
theorem ok_90 : (List.range' 90 10).all mj_okb = true := by decide +kernel
theorem ok_100 : (List.range' 100 10).all mj_okb = true := by decide +kernel
theorem ok_110 : (List.range' 110 10).all mj_okb = true := by decide +kernel
theorem ok_120 : (List.range' 120 10).all mj_okb = true := by decide +kernel
theorem ok_130 : (List.range' 130 10).all mj_okb = true := by decide +kernel
