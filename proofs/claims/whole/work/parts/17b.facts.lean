set_option maxRecDepth 1000000 in
theorem gK0 : ∀ k ∈ List.range 5, u_lay RX0 TX0 k ∈ mj_mw := mj_yy_ok (ix := [538, 540, 542, 544, 546]) rfl (by decide +kernel)
set_option maxRecDepth 1000000 in
theorem gK1 : ∀ k ∈ List.range 8, u_lay RX1 TX1 k ∈ mj_mw := mj_yy_ok (ix := [346, 348, 350, 352, 354, 356, 358, 360]) rfl (by decide +kernel)
set_option maxRecDepth 1000000 in
theorem gK2 : ∀ k ∈ List.range 5, u_lay RX2 TX2 k ∈ mj_mw := mj_yy_ok (ix := [408, 410, 412, 414, 416]) rfl (by decide +kernel)
set_option maxRecDepth 1000000 in
theorem gK3 : ∀ k ∈ List.range 8, u_lay RX3 TX3 k ∈ mj_mw := mj_yy_ok (ix := [506, 508, 510, 512, 514, 516, 518, 520]) rfl (by decide +kernel)
set_option maxRecDepth 1000000 in
theorem gK4 : ∀ k ∈ List.range 5, u_lay RX4 TX4 k ∈ mj_mw := mj_yy_ok (ix := [385, 387, 389, 391, 393]) rfl (by decide +kernel)
set_option maxRecDepth 1000000 in
theorem gK5 : ∀ k ∈ List.range 11, u_lay RX5 TX5 k ∈ mj_mw := mj_yy_ok (ix := [304, 306, 308, 310, 312, 314, 316, 318, 320, 322, 324]) rfl (by decide +kernel)
set_option maxRecDepth 1000000 in
theorem gK6 : ∀ k ∈ List.range 9, u_lay RX6 TX6 k ∈ mj_mw := mj_yy_ok (ix := [226, 228, 230, 232, 234, 236, 238, 240, 242]) rfl (by decide +kernel)
set_option maxRecDepth 1000000 in
theorem gK7 : ∀ k ∈ List.range 4, u_lay RX7 TX7 k ∈ mj_mw := mj_yy_ok (ix := [187, 189, 191, 193]) rfl (by decide +kernel)
set_option maxRecDepth 1000000 in
theorem gK8 : ∀ k ∈ List.range 7, u_lay RX8 TX8 k ∈ mj_mw := mj_yy_ok (ix := [434, 436, 438, 440, 442, 444, 446]) rfl (by decide +kernel)
set_option maxRecDepth 1000000 in
theorem gK9 : ∀ k ∈ List.range 7, u_lay RX9 TX9 k ∈ mj_mw := mj_yy_ok (ix := [271, 273, 275, 277, 279, 281, 283]) rfl (by decide +kernel)
set_option maxRecDepth 1000000 in
theorem gK10 : ∀ k ∈ List.range 9, u_lay RX10 TX10 k ∈ mj_mw := mj_yy_ok (ix := [469, 471, 473, 475, 477, 479, 481, 483, 485]) rfl (by decide +kernel)
set_option maxRecDepth 1000000 in
theorem gK11 : ∀ k ∈ List.range 18, u_lay RX11 TX11 k ∈ mj_mw := mj_yy_ok (ix := [567, 569, 571, 573, 575, 577, 579, 581, 583, 585, 587, 589, 591, 593, 595, 597, 599, 601]) rfl (by decide +kernel)
set_option maxRecDepth 1000000 in
theorem gK12 : ∀ k ∈ List.range 63, u_lay RX12 TX12 k ∈ mj_mw := mj_yy_ok (ix := [1593, 1595, 1597, 1599, 1601, 1603, 1605, 1607, 1609, 1611, 1613, 1615, 1617, 1619, 1621, 1623, 1625, 1627, 1629, 1631, 1633, 1635, 1637, 1639, 1641, 1643, 1645, 1647, 1649, 1651, 1653, 1655, 1657, 1659, 1661, 1663, 1665, 1667, 1669, 1671, 1673, 1675, 1677, 1679, 1681, 1683, 1685, 1687, 1689, 1691, 1693, 1695, 1697, 1699, 1701, 1703, 1705, 1707, 1709, 1711, 1713, 1715, 1717]) rfl (by decide +kernel)
theorem mj_lay {C : String} {T : u_T} {N : Nat} (h : ∀ k ∈ List.range N, u_lay C T k ∈ mj_mw) : ∀ w ∈ u_ws C T N, w ∈ mj_mw := by
  intro w hw
  obtain ⟨k, hk, rfl⟩ := List.mem_map.mp hw
  exact h k hk
def mj_isR : FieldType → Bool
  | .object _ => true
  | .array _ => true
  | _ => false
theorem mj_isR_ok : ∀ {t : FieldType}, mj_isR t = true → (∃ n, t = .object n) ∨ ∃ z, t = .array z
  | .object n, _ => Or.inl ⟨n, rfl⟩
  | .array z, _ => Or.inr ⟨z, rfl⟩
theorem mj_k3 {f : Nat} {t : FieldType} {c C : String} (h : (decide ((f = 0 → t = .int) ∧ (f = 1 → t = .boolean) ∧ (f = 2 → t = .long) ∧ f ≤ 3 ∧ c = C) && (decide (f ≠ 3) || mj_isR t)) = true) : (f = 0 → t = .int) ∧ (f = 1 → t = .boolean) ∧ (f = 2 → t = .long) ∧ (f = 3 → (∃ n, t = .object n) ∨ ∃ z, t = .array z) ∧ f ≤ 3 ∧ c = C := by
  simp only [Bool.and_eq_true, decide_eq_true_eq, Bool.or_eq_true] at h
  obtain ⟨⟨h1, h2, h3, h4, h5⟩, h6⟩ := h
  exact ⟨h1, h2, h3, fun e => (h6.elim (fun q => absurd e q) mj_isR_ok), h4, h5⟩
set_option maxRecDepth 1000000 in
theorem mj_fcK_ok : mj_fcK := by
  intro a C T N h
  match a, h with
  | 0, h =>
    cases h
    refine ⟨mj_lay gK0, rfl, mj_atr 524 rfl rfl, mj_atr 126 rfl rfl, nmX0, tyX0, fun k hk => ⟨tyX0_ok k hk, ?_⟩⟩
    have h2 : (List.range 5).all (fun k => decide ((mj_ft 0 k = 0 → tyX0 k = .int) ∧ (mj_ft 0 k = 1 → tyX0 k = .boolean) ∧ (mj_ft 0 k = 2 → tyX0 k = .long) ∧ mj_ft 0 k ≤ 3 ∧ (TX0 k).1 = RX0) && (decide (mj_ft 0 k ≠ 3) || mj_isR (tyX0 k))) = true := by decide +kernel
    exact mj_k3 (List.all_eq_true.mp h2 k (List.mem_range.mpr hk))
  | 1, h =>
    cases h
    refine ⟨mj_lay gK1, rfl, mj_atr 328 rfl rfl, mj_atr 120 rfl rfl, nmX1, tyX1, fun k hk => ⟨tyX1_ok k hk, ?_⟩⟩
    have h2 : (List.range 8).all (fun k => decide ((mj_ft 1 k = 0 → tyX1 k = .int) ∧ (mj_ft 1 k = 1 → tyX1 k = .boolean) ∧ (mj_ft 1 k = 2 → tyX1 k = .long) ∧ mj_ft 1 k ≤ 3 ∧ (TX1 k).1 = RX1) && (decide (mj_ft 1 k ≠ 3) || mj_isR (tyX1 k))) = true := by decide +kernel
    exact mj_k3 (List.all_eq_true.mp h2 k (List.mem_range.mpr hk))
  | 2, h =>
    cases h
    refine ⟨mj_lay gK2, rfl, mj_atr 397 rfl rfl, mj_atr 122 rfl rfl, nmX2, tyX2, fun k hk => ⟨tyX2_ok k hk, ?_⟩⟩
    have h2 : (List.range 5).all (fun k => decide ((mj_ft 2 k = 0 → tyX2 k = .int) ∧ (mj_ft 2 k = 1 → tyX2 k = .boolean) ∧ (mj_ft 2 k = 2 → tyX2 k = .long) ∧ mj_ft 2 k ≤ 3 ∧ (TX2 k).1 = RX2) && (decide (mj_ft 2 k ≠ 3) || mj_isR (tyX2 k))) = true := by decide +kernel
    exact mj_k3 (List.all_eq_true.mp h2 k (List.mem_range.mpr hk))
  | 3, h =>
    cases h
    refine ⟨mj_lay gK3, rfl, mj_atr 490 rfl rfl, mj_atr 125 rfl rfl, nmX3, tyX3, fun k hk => ⟨tyX3_ok k hk, ?_⟩⟩
    have h2 : (List.range 8).all (fun k => decide ((mj_ft 3 k = 0 → tyX3 k = .int) ∧ (mj_ft 3 k = 1 → tyX3 k = .boolean) ∧ (mj_ft 3 k = 2 → tyX3 k = .long) ∧ mj_ft 3 k ≤ 3 ∧ (TX3 k).1 = RX3) && (decide (mj_ft 3 k ≠ 3) || mj_isR (tyX3 k))) = true := by decide +kernel
    exact mj_k3 (List.all_eq_true.mp h2 k (List.mem_range.mpr hk))
  | 4, h =>
    cases h
    refine ⟨mj_lay gK4, rfl, mj_atr 364 rfl rfl, mj_atr 121 rfl rfl, nmX4, tyX4, fun k hk => ⟨tyX4_ok k hk, ?_⟩⟩
    have h2 : (List.range 5).all (fun k => decide ((mj_ft 4 k = 0 → tyX4 k = .int) ∧ (mj_ft 4 k = 1 → tyX4 k = .boolean) ∧ (mj_ft 4 k = 2 → tyX4 k = .long) ∧ mj_ft 4 k ≤ 3 ∧ (TX4 k).1 = RX4) && (decide (mj_ft 4 k ≠ 3) || mj_isR (tyX4 k))) = true := by decide +kernel
    exact mj_k3 (List.all_eq_true.mp h2 k (List.mem_range.mpr hk))
  | 5, h =>
    cases h
    refine ⟨mj_lay gK5, rfl, mj_atr 287 rfl rfl, mj_atr 119 rfl rfl, nmX5, tyX5, fun k hk => ⟨tyX5_ok k hk, ?_⟩⟩
    have h2 : (List.range 11).all (fun k => decide ((mj_ft 5 k = 0 → tyX5 k = .int) ∧ (mj_ft 5 k = 1 → tyX5 k = .boolean) ∧ (mj_ft 5 k = 2 → tyX5 k = .long) ∧ mj_ft 5 k ≤ 3 ∧ (TX5 k).1 = RX5) && (decide (mj_ft 5 k ≠ 3) || mj_isR (tyX5 k))) = true := by decide +kernel
    exact mj_k3 (List.all_eq_true.mp h2 k (List.mem_range.mpr hk))
  | 6, h =>
    cases h
    refine ⟨mj_lay gK6, rfl, mj_atr 199 rfl rfl, mj_atr 117 rfl rfl, nmX6, tyX6, fun k hk => ⟨tyX6_ok k hk, ?_⟩⟩
    have h2 : (List.range 9).all (fun k => decide ((mj_ft 6 k = 0 → tyX6 k = .int) ∧ (mj_ft 6 k = 1 → tyX6 k = .boolean) ∧ (mj_ft 6 k = 2 → tyX6 k = .long) ∧ mj_ft 6 k ≤ 3 ∧ (TX6 k).1 = RX6) && (decide (mj_ft 6 k ≠ 3) || mj_isR (tyX6 k))) = true := by decide +kernel
    exact mj_k3 (List.all_eq_true.mp h2 k (List.mem_range.mpr hk))
  | 7, h =>
    cases h
    refine ⟨mj_lay gK7, rfl, mj_atr 155 rfl rfl, mj_atr 116 rfl rfl, nmX7, tyX7, fun k hk => ⟨tyX7_ok k hk, ?_⟩⟩
    have h2 : (List.range 4).all (fun k => decide ((mj_ft 7 k = 0 → tyX7 k = .int) ∧ (mj_ft 7 k = 1 → tyX7 k = .boolean) ∧ (mj_ft 7 k = 2 → tyX7 k = .long) ∧ mj_ft 7 k ≤ 3 ∧ (TX7 k).1 = RX7) && (decide (mj_ft 7 k ≠ 3) || mj_isR (tyX7 k))) = true := by decide +kernel
    exact mj_k3 (List.all_eq_true.mp h2 k (List.mem_range.mpr hk))
  | 8, h =>
    cases h
    refine ⟨mj_lay gK8, rfl, mj_atr 420 rfl rfl, mj_atr 123 rfl rfl, nmX8, tyX8, fun k hk => ⟨tyX8_ok k hk, ?_⟩⟩
    have h2 : (List.range 7).all (fun k => decide ((mj_ft 8 k = 0 → tyX8 k = .int) ∧ (mj_ft 8 k = 1 → tyX8 k = .boolean) ∧ (mj_ft 8 k = 2 → tyX8 k = .long) ∧ mj_ft 8 k ≤ 3 ∧ (TX8 k).1 = RX8) && (decide (mj_ft 8 k ≠ 3) || mj_isR (tyX8 k))) = true := by decide +kernel
    exact mj_k3 (List.all_eq_true.mp h2 k (List.mem_range.mpr hk))
  | 9, h =>
    cases h
    refine ⟨mj_lay gK9, rfl, mj_atr 149 rfl rfl, mj_atr 115 rfl rfl, nmX9, tyX9, fun k hk => ⟨tyX9_ok k hk, ?_⟩⟩
    have h2 : (List.range 7).all (fun k => decide ((mj_ft 9 k = 0 → tyX9 k = .int) ∧ (mj_ft 9 k = 1 → tyX9 k = .boolean) ∧ (mj_ft 9 k = 2 → tyX9 k = .long) ∧ mj_ft 9 k ≤ 3 ∧ (TX9 k).1 = RX9) && (decide (mj_ft 9 k ≠ 3) || mj_isR (tyX9 k))) = true := by decide +kernel
    exact mj_k3 (List.all_eq_true.mp h2 k (List.mem_range.mpr hk))
  | 10, h =>
    cases h
    refine ⟨mj_lay gK10, rfl, mj_atr 450 rfl rfl, mj_atr 124 rfl rfl, nmX10, tyX10, fun k hk => ⟨tyX10_ok k hk, ?_⟩⟩
    have h2 : (List.range 9).all (fun k => decide ((mj_ft 10 k = 0 → tyX10 k = .int) ∧ (mj_ft 10 k = 1 → tyX10 k = .boolean) ∧ (mj_ft 10 k = 2 → tyX10 k = .long) ∧ mj_ft 10 k ≤ 3 ∧ (TX10 k).1 = RX10) && (decide (mj_ft 10 k ≠ 3) || mj_isR (tyX10 k))) = true := by decide +kernel
    exact mj_k3 (List.all_eq_true.mp h2 k (List.mem_range.mpr hk))
  | 11, h =>
    cases h
    refine ⟨mj_lay gK11, rfl, mj_atr 141 rfl rfl, mj_atr 114 rfl rfl, nmX11, tyX11, fun k hk => ⟨tyX11_ok k hk, ?_⟩⟩
    have h2 : (List.range 18).all (fun k => decide ((mj_ft 11 k = 0 → tyX11 k = .int) ∧ (mj_ft 11 k = 1 → tyX11 k = .boolean) ∧ (mj_ft 11 k = 2 → tyX11 k = .long) ∧ mj_ft 11 k ≤ 3 ∧ (TX11 k).1 = RX11) && (decide (mj_ft 11 k ≠ 3) || mj_isR (tyX11 k))) = true := by decide +kernel
    exact mj_k3 (List.all_eq_true.mp h2 k (List.mem_range.mpr hk))
  | 12, h =>
    cases h
    refine ⟨mj_lay gK12, rfl, mj_atr 1525 rfl rfl, mj_atr 127 rfl rfl, nmX12, tyX12, fun k hk => ⟨tyX12_ok k hk, ?_⟩⟩
    have h2 : (List.range 63).all (fun k => decide ((mj_ft 12 k = 0 → tyX12 k = .int) ∧ (mj_ft 12 k = 1 → tyX12 k = .boolean) ∧ (mj_ft 12 k = 2 → tyX12 k = .long) ∧ mj_ft 12 k ≤ 3 ∧ (TX12 k).1 = RX12) && (decide (mj_ft 12 k ≠ 3) || mj_isR (tyX12 k))) = true := by decide +kernel
    exact mj_k3 (List.all_eq_true.mp h2 k (List.mem_range.mpr hk))
  | k + 13, h => simp [vwCl] at h
theorem mj_fcS_ok : mj_fcS := by
  intro k a h
  have hk : k < mj_shl.length := mj_sh_lt (by rw [h]; omega)
  have h2 : (List.range mj_shl.length).all (fun k => decide (mj_sh k < 10) || ((vwCl[mj_sh k - 10]?).map (fun q => q.2.2) == some (mj_ln k))) = true := by decide +kernel
  have h3 := List.all_eq_true.mp h2 k (List.mem_range.mpr hk)
  simp only [Bool.or_eq_true, decide_eq_true_eq, beq_iff_eq] at h3
  rcases h3 with h3 | h3
  · omega
  · rw [h, show 10 + a - 10 = a by omega] at h3
    cases hc : vwCl[a]? with
    | none => rw [hc] at h3; cases h3
    | some q =>
      obtain ⟨C, T, N⟩ := q
      rw [hc] at h3
      have e : N = mj_ln k := Option.some.inj h3
      subst e
      exact ⟨C, T, rfl⟩
theorem mj_lnb_ok : mj_lnb := by
  intro k
  rcases Nat.lt_or_ge k mj_lnl.length with q | q
  · have h2 : (List.range mj_lnl.length).all (fun k => decide (mj_ln k < 2 ^ 20)) = true := by decide +kernel
    exact of_decide_eq_true (List.all_eq_true.mp h2 k (List.mem_range.mpr q))
  · unfold mj_ln
    rw [List.getD_eq_getElem?_getD, List.getElem?_eq_none q]
    decide
