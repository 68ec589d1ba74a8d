/-! each method's list against its bytes -/
theorem ok_210 : (List.range' 210 10).all mj_okb = true := by decide +kernel
theorem ok_220 : (List.range' 220 10).all mj_okb = true := by decide +kernel
theorem ok_230 : (List.range' 230 10).all mj_okb = true := by decide +kernel
theorem ok_240 : (List.range' 240 10).all mj_okb = true := by decide +kernel
theorem ok_250 : (List.range' 250 10).all mj_okb = true := by decide +kernel
theorem ok_260 : (List.range' 260 10).all mj_okb = true := by decide +kernel
theorem ok_270 : (List.range' 270 10).all mj_okb = true := by decide +kernel
