/-! each method's list against its bytes -/
theorem ok_140 : (List.range' 140 10).all mj_okb = true := by decide +kernel
theorem ok_150 : (List.range' 150 10).all mj_okb = true := by decide +kernel
theorem ok_160 : (List.range' 160 10).all mj_okb = true := by decide +kernel
theorem ok_170 : (List.range' 170 10).all mj_okb = true := by decide +kernel
theorem ok_180 : (List.range' 180 10).all mj_okb = true := by decide +kernel
theorem ok_190 : (List.range' 190 10).all mj_okb = true := by decide +kernel
theorem ok_200 : (List.range' 200 10).all mj_okb = true := by decide +kernel
