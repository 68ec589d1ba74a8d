/-! the law's cases -/
section L
variable {K p : Nat} {xs : Nat → Int32} {o5 o6 : Option Value} {I : mj_I} {L : mj_L} {P : mj_P} {bc bs : Nat}
set_option maxHeartbeats 1000000 in
theorem y_1660 (hV : LWV (107, I, L, P)) (hK : K ≤ 3072) (hp : p + 6 ≤ K) (hb : 8 ≤ bc) (hs : 100 ≤ bs) (k : KN K p xs bc bs) : mj_run (mj_sc K xs 100) k323 mj_Q1 (k323 1660) [some (.retAddr 5), some (.ref 0), some (.ref 73), some (.ref 106), some (.int (nI p)), o5, o6] [] (107, I, L, P) bc bs := by
  obtain ⟨-, A, t, hC, hM, hP⟩ := hV
  refine q_5 rfl ?_
  refine q_47 (mj_sc_mono _ _ _) [] rfl rfl rfl (by decide) rfl (cb (by decide) hb) (cb (by decide) hs) ?_
  refine sc_ev (by decide) (by decide) (d_134 hC hM hP) (fun r σ hw => ?_)
  obtain ⟨n0, I1, L1, P1⟩ := σ
  obtain ⟨z, rfl, rfl, hw⟩ := LD_e hw
  refine q_5 rfl ?_
  refine q_47 (mj_sc_mono _ _ _) [] rfl rfl rfl (by decide) rfl (zb rfl) (zb rfl) ?_
  refine sc_ev (by decide) (by decide) hw (fun r σ hw => ?_)
  obtain ⟨n0, I2, L2, P2⟩ := σ
  obtain ⟨rfl, rfl, hV⟩ := LR_e hw
  refine q_23 ?_
  exact k _ _ _ _ _ _ _ hV (le2 (by decide)) (le2 (by decide))
set_option maxHeartbeats 1000000 in
theorem y_1671 (hV : LWV (107, I, L, P)) (hK : K ≤ 3072) (hp : p + 6 ≤ K) (hb : 8 ≤ bc) (hs : 100 ≤ bs) (k : KN K p xs bc bs) : mj_run (mj_sc K xs 100) k323 mj_Q1 (k323 1671) [some (.retAddr 5), some (.ref 0), some (.ref 73), some (.ref 106), some (.int (nI p)), o5, o6] [] (107, I, L, P) bc bs := by
  obtain ⟨-, A, t, hC, hM, hP⟩ := hV
  refine q_5 rfl ?_
  refine q_arg hK hp (by decide) rfl rfl ?_
  refine q_5 rfl ?_
  refine q_69 (mj_sc_mono _ _ _) [_, _, _] rfl rfl rfl (cb (by decide) hb) (cb (by decide) hs) ?_
  refine sc_ev (by decide) (by decide) (p_315 hC hM hP) (fun r σ hw => ?_)
  obtain ⟨n0, I1, L1, P1⟩ := σ
  obtain ⟨e, rfl, rfl, hw⟩ := LQ_e hw
  refine q_6 rfl rfl rfl ?_
  refine q_5 rfl ?_
  refine q_arg hK hp (by decide) rfl rfl ?_
  refine q_47 (mj_sc_mono _ _ _) [_] rfl rfl rfl (by decide) rfl (zb rfl) (zb rfl) ?_
  refine sc_ev (by decide) (by decide) hw (fun r σ hw => ?_)
  obtain ⟨n0, I2, L2, P2⟩ := σ
  obtain ⟨v, rfl, rfl, hV, h0, h6⟩ := LQ2_e hw
  refine q_6 rfl rfl rfl ?_
  refine q_5 rfl ?_
  refine q_47 (mj_sc_mono _ _ _) [] rfl rfl rfl (by decide) rfl (zb rfl) (zb rfl) ?_
  refine mj_ev_sc (by decide) (by decide) (s_162 ?_)
  refine q_3 rfl ?_
  refine q_eqI (fun hh => ?_) (fun hh => absurd h0 hh)
  refine q_3 rfl ?_
  refine q_neI0 (fun hh => ?_) (fun hh => ?_)
  · refine q_23 ?_
    exact k _ _ _ _ _ _ _ hV (le3 (by decide)) (le3 (by decide))
  · refine q_5 rfl ?_
    refine q_0 ?_
    refine q_39 _ rfl (by decide) rfl (by show _ < 1; omega) (by decide) ?_
    refine q_3 rfl ?_
    refine q_15 ?_
    refine q_17 ?_
    refine q_eqI0 (fun hz => ?_) (fun hz => absurd ((lg_cmp_eq _ _).mpr (h6 (Decidable.not_not.mp hh))) hz)
    refine q_23 ?_
    exact k _ _ _ _ _ _ _ hV (le3 (by decide)) (le3 (by decide))
set_option maxHeartbeats 1000000 in
theorem y_1727 (hV : LWV (107, I, L, P)) (hK : K ≤ 3072) (hp : p + 6 ≤ K) (hb : 8 ≤ bc) (hs : 100 ≤ bs) (k : KN K p xs bc bs) : mj_run (mj_sc K xs 100) k323 mj_Q1 (k323 1727) [some (.retAddr 5), some (.ref 0), some (.ref 73), some (.ref 106), some (.int (nI p)), o5, o6] [] (107, I, L, P) bc bs := by
  obtain ⟨-, A, t, hC, hM, hP⟩ := hV
  refine q_5 rfl ?_
  refine q_arg hK hp (by decide) rfl rfl ?_
  refine q_5 rfl ?_
  refine q_69 (mj_sc_mono _ _ _) [_, _, _] rfl rfl rfl (cb (by decide) hb) (cb (by decide) hs) ?_
  refine sc_ev (by decide) (by decide) (p_316 hC hM hP) (fun r σ hw => ?_)
  obtain ⟨n0, I1, L1, P1⟩ := σ
  obtain ⟨e, rfl, rfl, hw⟩ := LQ_e hw
  refine q_6 rfl rfl rfl ?_
  refine q_5 rfl ?_
  refine q_arg hK hp (by decide) rfl rfl ?_
  refine q_47 (mj_sc_mono _ _ _) [_] rfl rfl rfl (by decide) rfl (zb rfl) (zb rfl) ?_
  refine sc_ev (by decide) (by decide) hw (fun r σ hw => ?_)
  obtain ⟨n0, I2, L2, P2⟩ := σ
  obtain ⟨v, rfl, rfl, hV, h0, h6⟩ := LQ2_e hw
  refine q_6 rfl rfl rfl ?_
  refine q_5 rfl ?_
  refine q_47 (mj_sc_mono _ _ _) [] rfl rfl rfl (by decide) rfl (zb rfl) (zb rfl) ?_
  refine mj_ev_sc (by decide) (by decide) (s_162 ?_)
  refine q_3 rfl ?_
  refine q_eqI (fun hh => ?_) (fun hh => absurd h0 hh)
  refine q_3 rfl ?_
  refine q_neI0 (fun hh => ?_) (fun hh => ?_)
  · refine q_23 ?_
    exact k _ _ _ _ _ _ _ hV (le3 (by decide)) (le3 (by decide))
  · refine q_5 rfl ?_
    refine q_0 ?_
    refine q_39 _ rfl (by decide) rfl (by show _ < 1; omega) (by decide) ?_
    refine q_3 rfl ?_
    refine q_15 ?_
    refine q_17 ?_
    refine q_eqI0 (fun hz => ?_) (fun hz => absurd ((lg_cmp_eq _ _).mpr (h6 (Decidable.not_not.mp hh))) hz)
    refine q_23 ?_
    exact k _ _ _ _ _ _ _ hV (le3 (by decide)) (le3 (by decide))
set_option maxHeartbeats 1000000 in
theorem y_1783 (hV : LWV (107, I, L, P)) (hK : K ≤ 3072) (hp : p + 6 ≤ K) (hb : 8 ≤ bc) (hs : 100 ≤ bs) (k : KN K p xs bc bs) : mj_run (mj_sc K xs 100) k323 mj_Q1 (k323 1783) [some (.retAddr 5), some (.ref 0), some (.ref 73), some (.ref 106), some (.int (nI p)), o5, o6] [] (107, I, L, P) bc bs := by
  obtain ⟨-, A, t, hC, hM, hP⟩ := hV
  refine q_5 rfl ?_
  refine q_arg hK hp (by decide) rfl rfl ?_
  refine q_arg hK hp (by decide) rfl rfl ?_
  refine q_5 rfl ?_
  refine q_69 (mj_sc_mono _ _ _) [_, _, _, _] rfl rfl rfl (cb (by decide) hb) (cb (by decide) hs) ?_
  refine sc_ev (by decide) (by decide) (p_317 hC hM hP) (fun r σ hw => ?_)
  obtain ⟨n0, I1, L1, P1⟩ := σ
  obtain ⟨e, rfl, rfl, hw⟩ := LQ_e hw
  refine q_6 rfl rfl rfl ?_
  refine q_5 rfl ?_
  refine q_arg hK hp (by decide) rfl rfl ?_
  refine q_arg hK hp (by decide) rfl rfl ?_
  refine q_47 (mj_sc_mono _ _ _) [_, _] rfl rfl rfl (by decide) rfl (zb rfl) (zb rfl) ?_
  refine sc_ev (by decide) (by decide) hw (fun r σ hw => ?_)
  obtain ⟨n0, I2, L2, P2⟩ := σ
  obtain ⟨v, rfl, rfl, hV, h0, h6⟩ := LQ2_e hw
  refine q_6 rfl rfl rfl ?_
  refine q_5 rfl ?_
  refine q_47 (mj_sc_mono _ _ _) [] rfl rfl rfl (by decide) rfl (zb rfl) (zb rfl) ?_
  refine mj_ev_sc (by decide) (by decide) (s_162 ?_)
  refine q_3 rfl ?_
  refine q_eqI (fun hh => ?_) (fun hh => absurd h0 hh)
  refine q_3 rfl ?_
  refine q_neI0 (fun hh => ?_) (fun hh => ?_)
  · refine q_23 ?_
    exact k _ _ _ _ _ _ _ hV (le3 (by decide)) (le3 (by decide))
  · refine q_5 rfl ?_
    refine q_0 ?_
    refine q_39 _ rfl (by decide) rfl (by show _ < 1; omega) (by decide) ?_
    refine q_3 rfl ?_
    refine q_15 ?_
    refine q_17 ?_
    refine q_eqI0 (fun hz => ?_) (fun hz => absurd ((lg_cmp_eq _ _).mpr (h6 (Decidable.not_not.mp hh))) hz)
    refine q_23 ?_
    exact k _ _ _ _ _ _ _ hV (le3 (by decide)) (le3 (by decide))
set_option maxHeartbeats 1000000 in
theorem y_1851 (hV : LWV (107, I, L, P)) (hK : K ≤ 3072) (hp : p + 6 ≤ K) (hb : 8 ≤ bc) (hs : 100 ≤ bs) (k : KN K p xs bc bs) : mj_run (mj_sc K xs 100) k323 mj_Q1 (k323 1851) [some (.retAddr 5), some (.ref 0), some (.ref 73), some (.ref 106), some (.int (nI p)), o5, o6] [] (107, I, L, P) bc bs := by
  obtain ⟨-, A, t, hC, hM, hP⟩ := hV
  refine q_5 rfl ?_
  refine q_arg hK hp (by decide) rfl rfl ?_
  refine q_arg hK hp (by decide) rfl rfl ?_
  refine q_arg hK hp (by decide) rfl rfl ?_
  refine q_5 rfl ?_
  refine q_69 (mj_sc_mono _ _ _) [_, _, _, _, _] rfl rfl rfl (cb (by decide) hb) (cb (by decide) hs) ?_
  refine sc_ev (by decide) (by decide) (p_318 hC hM hP) (fun r σ hw => ?_)
  obtain ⟨n0, I1, L1, P1⟩ := σ
  obtain ⟨e, rfl, rfl, hw⟩ := LQ_e hw
  refine q_6 rfl rfl rfl ?_
  refine q_5 rfl ?_
  refine q_arg hK hp (by decide) rfl rfl ?_
  refine q_arg hK hp (by decide) rfl rfl ?_
  refine q_arg hK hp (by decide) rfl rfl ?_
  refine q_47 (mj_sc_mono _ _ _) [_, _, _] rfl rfl rfl (by decide) rfl (zb rfl) (zb rfl) ?_
  refine sc_ev (by decide) (by decide) hw (fun r σ hw => ?_)
  obtain ⟨n0, I2, L2, P2⟩ := σ
  obtain ⟨v, rfl, rfl, hV, h0, h6⟩ := LQ2_e hw
  refine q_6 rfl rfl rfl ?_
  refine q_5 rfl ?_
  refine q_47 (mj_sc_mono _ _ _) [] rfl rfl rfl (by decide) rfl (zb rfl) (zb rfl) ?_
  refine mj_ev_sc (by decide) (by decide) (s_162 ?_)
  refine q_3 rfl ?_
  refine q_eqI (fun hh => ?_) (fun hh => absurd h0 hh)
  refine q_3 rfl ?_
  refine q_neI0 (fun hh => ?_) (fun hh => ?_)
  · refine q_23 ?_
    exact k _ _ _ _ _ _ _ hV (le3 (by decide)) (le3 (by decide))
  · refine q_5 rfl ?_
    refine q_0 ?_
    refine q_39 _ rfl (by decide) rfl (by show _ < 1; omega) (by decide) ?_
    refine q_3 rfl ?_
    refine q_15 ?_
    refine q_17 ?_
    refine q_eqI0 (fun hz => ?_) (fun hz => absurd ((lg_cmp_eq _ _).mpr (h6 (Decidable.not_not.mp hh))) hz)
    refine q_23 ?_
    exact k _ _ _ _ _ _ _ hV (le3 (by decide)) (le3 (by decide))
set_option maxHeartbeats 1000000 in
theorem y_1931 (hV : LWV (107, I, L, P)) (hK : K ≤ 3072) (hp : p + 6 ≤ K) (hb : 8 ≤ bc) (hs : 100 ≤ bs) (k : KN K p xs bc bs) : mj_run (mj_sc K xs 100) k323 mj_Q1 (k323 1931) [some (.retAddr 5), some (.ref 0), some (.ref 73), some (.ref 106), some (.int (nI p)), o5, o6] [] (107, I, L, P) bc bs := by
  obtain ⟨-, A, t, hC, hM, hP⟩ := hV
  refine q_5 rfl ?_
  refine q_47 (mj_sc_mono _ _ _) [] rfl rfl rfl (by decide) rfl (cb (by decide) hb) (cb (by decide) hs) ?_
  refine sc_ev (by decide) (by decide) (d_143 hC hM hP) (fun r σ hw => ?_)
  obtain ⟨n0, I1, L1, P1⟩ := σ
  obtain ⟨z, rfl, rfl, hw⟩ := LD_e hw
  refine q_5 rfl ?_
  refine q_47 (mj_sc_mono _ _ _) [] rfl rfl rfl (by decide) rfl (zb rfl) (zb rfl) ?_
  refine sc_ev (by decide) (by decide) hw (fun r σ hw => ?_)
  obtain ⟨n0, I2, L2, P2⟩ := σ
  obtain ⟨rfl, rfl, hV⟩ := LR_e hw
  refine q_eqI (fun hh => ?_) (fun hh => absurd rfl hh)
  exact k _ _ _ _ _ _ _ hV (le2 (by decide)) (le2 (by decide))
set_option maxHeartbeats 1000000 in
theorem y_1944 (hV : LWV (107, I, L, P)) (hK : K ≤ 3072) (hp : p + 6 ≤ K) (hb : 8 ≤ bc) (hs : 100 ≤ bs) (k : KN K p xs bc bs) : mj_run (mj_sc K xs 100) k323 mj_Q1 (k323 1944) [some (.retAddr 5), some (.ref 0), some (.ref 73), some (.ref 106), some (.int (nI p)), o5, o6] [] (107, I, L, P) bc bs := by
  obtain ⟨-, A, t, hC, hM, hP⟩ := hV
  refine q_5 rfl ?_
  refine q_arg hK hp (by decide) rfl rfl ?_
  refine q_arg hK hp (by decide) rfl rfl ?_
  refine q_arg hK hp (by decide) rfl rfl ?_
  refine q_5 rfl ?_
  refine q_69 (mj_sc_mono _ _ _) [_, _, _, _, _] rfl rfl rfl (cb (by decide) hb) (cb (by decide) hs) ?_
  refine sc_ev (by decide) (by decide) (p_319 hC hM hP) (fun r σ hw => ?_)
  obtain ⟨n0, I1, L1, P1⟩ := σ
  obtain ⟨e, rfl, rfl, hw⟩ := LQ_e hw
  refine q_6 rfl rfl rfl ?_
  refine q_5 rfl ?_
  refine q_arg hK hp (by decide) rfl rfl ?_
  refine q_arg hK hp (by decide) rfl rfl ?_
  refine q_arg hK hp (by decide) rfl rfl ?_
  refine q_47 (mj_sc_mono _ _ _) [_, _, _] rfl rfl rfl (by decide) rfl (zb rfl) (zb rfl) ?_
  refine sc_ev (by decide) (by decide) hw (fun r σ hw => ?_)
  obtain ⟨n0, I2, L2, P2⟩ := σ
  obtain ⟨v, rfl, rfl, hV, h0, h6⟩ := LQ2_e hw
  refine q_6 rfl rfl rfl ?_
  refine q_5 rfl ?_
  refine q_47 (mj_sc_mono _ _ _) [] rfl rfl rfl (by decide) rfl (zb rfl) (zb rfl) ?_
  refine mj_ev_sc (by decide) (by decide) (s_162 ?_)
  refine q_3 rfl ?_
  refine q_eqI (fun hh => ?_) (fun hh => absurd h0 hh)
  refine q_3 rfl ?_
  refine q_neI0 (fun hh => ?_) (fun hh => ?_)
  · refine q_23 ?_
    exact k _ _ _ _ _ _ _ hV (le3 (by decide)) (le3 (by decide))
  · refine q_5 rfl ?_
    refine q_0 ?_
    refine q_39 _ rfl (by decide) rfl (by show _ < 1; omega) (by decide) ?_
    refine q_3 rfl ?_
    refine q_15 ?_
    refine q_17 ?_
    refine q_eqI0 (fun hz => ?_) (fun hz => absurd ((lg_cmp_eq _ _).mpr (h6 (Decidable.not_not.mp hh))) hz)
    refine q_23 ?_
    exact k _ _ _ _ _ _ _ hV (le3 (by decide)) (le3 (by decide))
set_option maxHeartbeats 1000000 in
theorem y_2024 (hV : LWV (107, I, L, P)) (hK : K ≤ 3072) (hp : p + 6 ≤ K) (hb : 8 ≤ bc) (hs : 100 ≤ bs) (k : KN K p xs bc bs) : mj_run (mj_sc K xs 100) k323 mj_Q1 (k323 2024) [some (.retAddr 5), some (.ref 0), some (.ref 73), some (.ref 106), some (.int (nI p)), o5, o6] [] (107, I, L, P) bc bs := by
  obtain ⟨-, A, t, hC, hM, hP⟩ := hV
  refine q_5 rfl ?_
  refine q_arg hK hp (by decide) rfl rfl ?_
  refine q_arg hK hp (by decide) rfl rfl ?_
  refine q_5 rfl ?_
  refine q_69 (mj_sc_mono _ _ _) [_, _, _, _] rfl rfl rfl (cb (by decide) hb) (cb (by decide) hs) ?_
  refine sc_ev (by decide) (by decide) (p_320 hC hM hP) (fun r σ hw => ?_)
  obtain ⟨n0, I1, L1, P1⟩ := σ
  obtain ⟨e, rfl, rfl, hw⟩ := LQ_e hw
  refine q_6 rfl rfl rfl ?_
  refine q_5 rfl ?_
  refine q_arg hK hp (by decide) rfl rfl ?_
  refine q_arg hK hp (by decide) rfl rfl ?_
  refine q_47 (mj_sc_mono _ _ _) [_, _] rfl rfl rfl (by decide) rfl (zb rfl) (zb rfl) ?_
  refine sc_ev (by decide) (by decide) hw (fun r σ hw => ?_)
  obtain ⟨n0, I2, L2, P2⟩ := σ
  obtain ⟨v, rfl, rfl, hV, h0, h6⟩ := LQ2_e hw
  refine q_6 rfl rfl rfl ?_
  refine q_5 rfl ?_
  refine q_47 (mj_sc_mono _ _ _) [] rfl rfl rfl (by decide) rfl (zb rfl) (zb rfl) ?_
  refine mj_ev_sc (by decide) (by decide) (s_162 ?_)
  refine q_3 rfl ?_
  refine q_eqI (fun hh => ?_) (fun hh => absurd h0 hh)
  refine q_3 rfl ?_
  refine q_neI0 (fun hh => ?_) (fun hh => ?_)
  · refine q_23 ?_
    exact k _ _ _ _ _ _ _ hV (le3 (by decide)) (le3 (by decide))
  · refine q_5 rfl ?_
    refine q_0 ?_
    refine q_39 _ rfl (by decide) rfl (by show _ < 1; omega) (by decide) ?_
    refine q_3 rfl ?_
    refine q_15 ?_
    refine q_17 ?_
    refine q_eqI0 (fun hz => ?_) (fun hz => absurd ((lg_cmp_eq _ _).mpr (h6 (Decidable.not_not.mp hh))) hz)
    refine q_23 ?_
    exact k _ _ _ _ _ _ _ hV (le3 (by decide)) (le3 (by decide))
set_option maxHeartbeats 1000000 in
theorem y_2092 (hV : LWV (107, I, L, P)) (hK : K ≤ 3072) (hp : p + 6 ≤ K) (hb : 8 ≤ bc) (hs : 100 ≤ bs) (k : KN K p xs bc bs) : mj_run (mj_sc K xs 100) k323 mj_Q1 (k323 2092) [some (.retAddr 5), some (.ref 0), some (.ref 73), some (.ref 106), some (.int (nI p)), o5, o6] [] (107, I, L, P) bc bs := by
  obtain ⟨-, A, t, hC, hM, hP⟩ := hV
  refine q_5 rfl ?_
  refine q_47 (mj_sc_mono _ _ _) [] rfl rfl rfl (by decide) rfl (cb (by decide) hb) (cb (by decide) hs) ?_
  refine sc_ev (by decide) (by decide) (d_146 hC hM hP) (fun r σ hw => ?_)
  obtain ⟨n0, I1, L1, P1⟩ := σ
  obtain ⟨z, rfl, rfl, hw⟩ := LD_e hw
  refine q_5 rfl ?_
  refine q_47 (mj_sc_mono _ _ _) [] rfl rfl rfl (by decide) rfl (zb rfl) (zb rfl) ?_
  refine sc_ev (by decide) (by decide) hw (fun r σ hw => ?_)
  obtain ⟨n0, I2, L2, P2⟩ := σ
  obtain ⟨rfl, rfl, hV⟩ := LR_e hw
  refine q_eqI (fun hh => ?_) (fun hh => absurd rfl hh)
  exact k _ _ _ _ _ _ _ hV (le2 (by decide)) (le2 (by decide))
set_option maxHeartbeats 1000000 in
theorem y_2105 (hV : LWV (107, I, L, P)) (hK : K ≤ 3072) (hp : p + 6 ≤ K) (hb : 8 ≤ bc) (hs : 100 ≤ bs) (k : KN K p xs bc bs) : mj_run (mj_sc K xs 100) k323 mj_Q1 (k323 2105) [some (.retAddr 5), some (.ref 0), some (.ref 73), some (.ref 106), some (.int (nI p)), o5, o6] [] (107, I, L, P) bc bs := by
  obtain ⟨-, A, t, hC, hM, hP⟩ := hV
  refine q_5 rfl ?_
  refine q_arg hK hp (by decide) rfl rfl ?_
  refine q_5 rfl ?_
  refine q_69 (mj_sc_mono _ _ _) [_, _, _] rfl rfl rfl (cb (by decide) hb) (cb (by decide) hs) ?_
  refine sc_ev (by decide) (by decide) (p_321 hC hM hP) (fun r σ hw => ?_)
  obtain ⟨n0, I1, L1, P1⟩ := σ
  obtain ⟨e, rfl, rfl, hw⟩ := LQ_e hw
  refine q_6 rfl rfl rfl ?_
  refine q_5 rfl ?_
  refine q_arg hK hp (by decide) rfl rfl ?_
  refine q_47 (mj_sc_mono _ _ _) [_] rfl rfl rfl (by decide) rfl (zb rfl) (zb rfl) ?_
  refine sc_ev (by decide) (by decide) hw (fun r σ hw => ?_)
  obtain ⟨n0, I2, L2, P2⟩ := σ
  obtain ⟨v, rfl, rfl, hV, h0, h6⟩ := LQ2_e hw
  refine q_6 rfl rfl rfl ?_
  refine q_5 rfl ?_
  refine q_47 (mj_sc_mono _ _ _) [] rfl rfl rfl (by decide) rfl (zb rfl) (zb rfl) ?_
  refine mj_ev_sc (by decide) (by decide) (s_162 ?_)
  refine q_3 rfl ?_
  refine q_eqI (fun hh => ?_) (fun hh => absurd h0 hh)
  refine q_3 rfl ?_
  refine q_neI0 (fun hh => ?_) (fun hh => ?_)
  · refine q_23 ?_
    exact k _ _ _ _ _ _ _ hV (le3 (by decide)) (le3 (by decide))
  · refine q_5 rfl ?_
    refine q_0 ?_
    refine q_39 _ rfl (by decide) rfl (by show _ < 1; omega) (by decide) ?_
    refine q_3 rfl ?_
    refine q_15 ?_
    refine q_17 ?_
    refine q_eqI0 (fun hz => ?_) (fun hz => absurd ((lg_cmp_eq _ _).mpr (h6 (Decidable.not_not.mp hh))) hz)
    refine q_23 ?_
    exact k _ _ _ _ _ _ _ hV (le3 (by decide)) (le3 (by decide))
set_option maxHeartbeats 1000000 in
theorem y_2161 (hV : LWV (107, I, L, P)) (hK : K ≤ 3072) (hp : p + 6 ≤ K) (hb : 8 ≤ bc) (hs : 100 ≤ bs) (k : KN K p xs bc bs) : mj_run (mj_sc K xs 100) k323 mj_Q1 (k323 2161) [some (.retAddr 5), some (.ref 0), some (.ref 73), some (.ref 106), some (.int (nI p)), o5, o6] [] (107, I, L, P) bc bs := by
  obtain ⟨-, A, t, hC, hM, hP⟩ := hV
  refine q_5 rfl ?_
  refine q_arg hK hp (by decide) rfl rfl ?_
  refine q_5 rfl ?_
  refine q_69 (mj_sc_mono _ _ _) [_, _, _] rfl rfl rfl (cb (by decide) hb) (cb (by decide) hs) ?_
  refine sc_ev (by decide) (by decide) (p_322 hC hM hP) (fun r σ hw => ?_)
  obtain ⟨n0, I1, L1, P1⟩ := σ
  obtain ⟨e, rfl, rfl, hw⟩ := LQ_e hw
  refine q_6 rfl rfl rfl ?_
  refine q_5 rfl ?_
  refine q_arg hK hp (by decide) rfl rfl ?_
  refine q_47 (mj_sc_mono _ _ _) [_] rfl rfl rfl (by decide) rfl (zb rfl) (zb rfl) ?_
  refine sc_ev (by decide) (by decide) hw (fun r σ hw => ?_)
  obtain ⟨n0, I2, L2, P2⟩ := σ
  obtain ⟨v, rfl, rfl, hV, h0, h6⟩ := LQ2_e hw
  refine q_6 rfl rfl rfl ?_
  refine q_5 rfl ?_
  refine q_47 (mj_sc_mono _ _ _) [] rfl rfl rfl (by decide) rfl (zb rfl) (zb rfl) ?_
  refine mj_ev_sc (by decide) (by decide) (s_162 ?_)
  refine q_3 rfl ?_
  refine q_eqI (fun hh => ?_) (fun hh => absurd h0 hh)
  refine q_3 rfl ?_
  refine q_neI0 (fun hh => ?_) (fun hh => ?_)
  · refine q_23 ?_
    exact k _ _ _ _ _ _ _ hV (le3 (by decide)) (le3 (by decide))
  · refine q_5 rfl ?_
    refine q_0 ?_
    refine q_39 _ rfl (by decide) rfl (by show _ < 1; omega) (by decide) ?_
    refine q_3 rfl ?_
    refine q_15 ?_
    refine q_17 ?_
    refine q_eqI0 (fun hz => ?_) (fun hz => absurd ((lg_cmp_eq _ _).mpr (h6 (Decidable.not_not.mp hh))) hz)
    refine q_23 ?_
    exact k _ _ _ _ _ _ _ hV (le3 (by decide)) (le3 (by decide))
set_option maxHeartbeats 1000000 in
theorem y_2217 (hV : LWV (107, I, L, P)) (hK : K ≤ 3072) (hp : p + 6 ≤ K) (hb : 8 ≤ bc) (hs : 100 ≤ bs) (k : KN K p xs bc bs) : mj_run (mj_sc K xs 100) k323 mj_Q1 (k323 2217) [some (.retAddr 5), some (.ref 0), some (.ref 73), some (.ref 106), some (.int (nI p)), o5, o6] [] (107, I, L, P) bc bs := by
  obtain ⟨-, A, t, hC, hM, hP⟩ := hV
  refine q_5 rfl ?_
  refine q_47 (mj_sc_mono _ _ _) [] rfl rfl rfl (by decide) rfl (cb (by decide) hb) (cb (by decide) hs) ?_
  refine sc_ev (by decide) (by decide) (d_132 hC hM hP) (fun r σ hw => ?_)
  obtain ⟨n0, I1, L1, P1⟩ := σ
  obtain ⟨z, rfl, rfl, hw⟩ := LD_e hw
  refine q_5 rfl ?_
  refine q_47 (mj_sc_mono _ _ _) [] rfl rfl rfl (by decide) rfl (zb rfl) (zb rfl) ?_
  refine sc_ev (by decide) (by decide) hw (fun r σ hw => ?_)
  obtain ⟨n0, I2, L2, P2⟩ := σ
  obtain ⟨rfl, rfl, hV⟩ := LR_e hw
  refine q_eqI (fun hh => ?_) (fun hh => absurd rfl hh)
  exact k _ _ _ _ _ _ _ hV (le2 (by decide)) (le2 (by decide))
set_option maxHeartbeats 1000000 in
theorem y_2230 (hV : LWV (107, I, L, P)) (hK : K ≤ 3072) (hp : p + 6 ≤ K) (hb : 8 ≤ bc) (hs : 100 ≤ bs) (k : KN K p xs bc bs) : mj_run (mj_sc K xs 100) k323 mj_Q1 (k323 2230) [some (.retAddr 5), some (.ref 0), some (.ref 73), some (.ref 106), some (.int (nI p)), o5, o6] [] (107, I, L, P) bc bs := by
  obtain ⟨-, A, t, hC, hM, hP⟩ := hV
  refine q_5 rfl ?_
  refine q_47 (mj_sc_mono _ _ _) [] rfl rfl rfl (by decide) rfl (cb (by decide) hb) (cb (by decide) hs) ?_
  refine sc_ev (by decide) (by decide) (d_147 hC hM hP) (fun r σ hw => ?_)
  obtain ⟨n0, I1, L1, P1⟩ := σ
  obtain ⟨z, rfl, rfl, hw⟩ := LD_e hw
  refine q_5 rfl ?_
  refine q_47 (mj_sc_mono _ _ _) [] rfl rfl rfl (by decide) rfl (zb rfl) (zb rfl) ?_
  refine sc_ev (by decide) (by decide) hw (fun r σ hw => ?_)
  obtain ⟨n0, I2, L2, P2⟩ := σ
  obtain ⟨rfl, rfl, hV⟩ := LR_e hw
  refine q_23 ?_
  exact k _ _ _ _ _ _ _ hV (le2 (by decide)) (le2 (by decide))
set_option maxHeartbeats 1000000 in
theorem y_2241 (hV : LWV (107, I, L, P)) (hK : K ≤ 3072) (hp : p + 6 ≤ K) (hb : 8 ≤ bc) (hs : 100 ≤ bs) (k : KN K p xs bc bs) : mj_run (mj_sc K xs 100) k323 mj_Q1 (k323 2241) [some (.retAddr 5), some (.ref 0), some (.ref 73), some (.ref 106), some (.int (nI p)), o5, o6] [] (107, I, L, P) bc bs := by
  obtain ⟨-, A, t, hC, hM, hP⟩ := hV
  refine q_5 rfl ?_
  refine q_47 (mj_sc_mono _ _ _) [] rfl rfl rfl (by decide) rfl (cb (by decide) hb) (cb (by decide) hs) ?_
  refine sc_ev (by decide) (by decide) (d_148 hC hM hP) (fun r σ hw => ?_)
  obtain ⟨n0, I1, L1, P1⟩ := σ
  obtain ⟨z, rfl, rfl, hw⟩ := LD_e hw
  refine q_5 rfl ?_
  refine q_47 (mj_sc_mono _ _ _) [] rfl rfl rfl (by decide) rfl (zb rfl) (zb rfl) ?_
  refine sc_ev (by decide) (by decide) hw (fun r σ hw => ?_)
  obtain ⟨n0, I2, L2, P2⟩ := σ
  obtain ⟨rfl, rfl, hV⟩ := LR_e hw
  refine q_eqI (fun hh => ?_) (fun hh => absurd rfl hh)
  exact k _ _ _ _ _ _ _ hV (le2 (by decide)) (le2 (by decide))
end L
