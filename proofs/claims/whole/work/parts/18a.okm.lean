/-! each method's list against its bytes -/
def mj_okb (mm : Nat) : Bool := mj_ckL mm (mj_code mm 0) && (mj_pc (mj_code mm 0) == 0) && plainName (mj_my mm).cls && decide ((mj_my mm).cls = mj_cn (mj_mo mm))
theorem ok_0 : (List.range' 0 10).all mj_okb = true := by decide +kernel
theorem ok_10 : (List.range' 10 10).all mj_okb = true := by decide +kernel
theorem ok_20 : (List.range' 20 10).all mj_okb = true := by decide +kernel
theorem ok_30 : (List.range' 30 10).all mj_okb = true := by decide +kernel
theorem ok_40 : (List.range' 40 10).all mj_okb = true := by decide +kernel
theorem ok_50 : (List.range' 50 10).all mj_okb = true := by decide +kernel
theorem ok_60 : (List.range' 60 10).all mj_okb = true := by decide +kernel
