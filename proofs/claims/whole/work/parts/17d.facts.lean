/-! the words that a throw takes -/
set_option maxRecDepth 100000 in
theorem gT0 : ∀ w ∈ (mj_xw RX11 0).filter goodWord, w ∈ lw_tbl := by decide +kernel
set_option maxRecDepth 100000 in
theorem gU0 : (mj_xw RX11 0).all (fun w => goodWord w || decide (w = .castable "java/util/NoSuchElementException" "java/util/NoSuchElementException") || decide (w ∈ mj_dc.map (fun y => Cond.declares (Bundle.initS y)))) = true := by decide +kernel
set_option maxRecDepth 100000 in
theorem gV0 : (mj_xw RX11 0).all vx_ot = true := by decide +kernel
theorem gW0 : ∀ w ∈ (mj_xw RX11 0), w ∈ mj_mw ∨ w = .castable "java/util/NoSuchElementException" "java/util/NoSuchElementException" ∨ ∃ y ∈ mj_dc, w = .declares (Bundle.initS y) := by
  intro w hw
  have h := List.all_eq_true.mp gU0 w hw
  simp only [Bool.or_eq_true, decide_eq_true_eq] at h
  rcases h with (h | h) | h
  · exact Or.inl (List.mem_filter.mpr ⟨gT0 w (List.mem_filter.mpr ⟨hw, h⟩), h⟩)
  · exact Or.inr (Or.inl h)
  · obtain ⟨y, hy, e⟩ := List.mem_map.mp h
    exact Or.inr (Or.inr ⟨y, hy, e.symm⟩)
set_option maxRecDepth 100000 in
theorem gT1 : ∀ w ∈ (mj_xw RX11 1).filter goodWord, w ∈ lw_tbl := by decide +kernel
set_option maxRecDepth 100000 in
theorem gU1 : (mj_xw RX11 1).all (fun w => goodWord w || decide (w = .castable "java/lang/IllegalArgumentException" "java/lang/IllegalArgumentException") || decide (w ∈ mj_dc.map (fun y => Cond.declares (Bundle.initS y)))) = true := by decide +kernel
set_option maxRecDepth 100000 in
theorem gV1 : (mj_xw RX11 1).all vx_ot = true := by decide +kernel
theorem gW1 : ∀ w ∈ (mj_xw RX11 1), w ∈ mj_mw ∨ w = .castable "java/lang/IllegalArgumentException" "java/lang/IllegalArgumentException" ∨ ∃ y ∈ mj_dc, w = .declares (Bundle.initS y) := by
  intro w hw
  have h := List.all_eq_true.mp gU1 w hw
  simp only [Bool.or_eq_true, decide_eq_true_eq] at h
  rcases h with (h | h) | h
  · exact Or.inl (List.mem_filter.mpr ⟨gT1 w (List.mem_filter.mpr ⟨hw, h⟩), h⟩)
  · exact Or.inr (Or.inl h)
  · obtain ⟨y, hy, e⟩ := List.mem_map.mp h
    exact Or.inr (Or.inr ⟨y, hy, e.symm⟩)
set_option maxRecDepth 100000 in
theorem gX0 : Cond.classLink RX11 170 "java/util/NoSuchElementException" ∈ lw_tbl ∧ Cond.initialized "java/util/NoSuchElementException" ∈ lw_tbl ∧ Cond.classLink RX11 122 "java/lang/IllegalArgumentException" ∈ lw_tbl ∧ Cond.initialized "java/lang/IllegalArgumentException" ∈ lw_tbl := by decide +kernel
theorem mj_mwg {w : Cond} (h : w ∈ lw_tbl) (g : goodWord w = true) : w ∈ mj_mw := List.mem_filter.mpr ⟨h, g⟩
theorem mj_fcT_ok : mj_fcT := by
  intro q hq
  have h : mj_pT.all (fun q => decide (q.1 = 11) && (decide (q.2.1 = 0 ∧ q.2.2.2 = 170) || decide (q.2.1 = 1 ∧ q.2.2.2 = 122))) = true := by decide +kernel
  have h2 := List.all_eq_true.mp h q hq
  obtain ⟨q1, q2, q3, q4⟩ := q
  simp only [Bool.and_eq_true, Bool.or_eq_true, decide_eq_true_eq] at h2
  obtain ⟨rfl, ⟨rfl, rfl⟩ | ⟨rfl, rfl⟩⟩ := h2
  · refine ⟨by show 0 < 2; omega, mj_mwg gX0.1 rfl, mj_mwg gX0.2.1 rfl, gW0, ?_⟩
    intro w hw
    rcases List.mem_cons.mp hw with rfl | hw
    · rfl
    · rcases List.mem_cons.mp hw with rfl | hw
      · rfl
      · exact List.all_eq_true.mp gV0 w hw
  · refine ⟨by show 1 < 2; omega, mj_mwg gX0.2.2.1 rfl, mj_mwg gX0.2.2.2 rfl, gW1, ?_⟩
    intro w hw
    rcases List.mem_cons.mp hw with rfl | hw
    · rfl
    · rcases List.mem_cons.mp hw with rfl | hw
      · rfl
      · exact List.all_eq_true.mp gV1 w hw
theorem mj_FC_ok : mj_FC := ⟨mj_fcF_ok, mj_fcK_ok, mj_fcS_ok, mj_fcI_ok, mj_fcJ_ok, mj_fcO_ok, mj_fcA_ok, mj_fcC_ok, mj_fcR_ok, mj_fcM_ok, mj_fcQ_ok, mj_fcT_ok, mj_fcV_ok, mj_fcH_ok, mj_fcX_ok⟩
theorem mj_cll : mj_codel.length = 324 := by decide +kernel
