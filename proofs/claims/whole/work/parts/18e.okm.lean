/-! each method's list against its bytes -/
theorem ok_280 : (List.range' 280 10).all mj_okb = true := by decide +kernel
theorem ok_290 : (List.range' 290 10).all mj_okb = true := by decide +kernel
theorem ok_300 : (List.range' 300 10).all mj_okb = true := by decide +kernel
theorem ok_310 : (List.range' 310 10).all mj_okb = true := by decide +kernel
theorem ok_320 : (List.range' 320 3).all mj_okb = true := by decide +kernel
