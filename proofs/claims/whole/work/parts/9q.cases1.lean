/-! the law's cases -/
section L
variable {K p : Nat} {xs : Nat → Int32} {o5 o6 : Option Value} {I : mj_I} {L : mj_L} {P : mj_P} {bc bs : Nat}
set_option maxHeartbeats 1000000 in
theorem y_999 (hV : LWV (107, I, L, P)) (hK : K ≤ 3072) (hp : p + 6 ≤ K) (hb : 8 ≤ bc) (hs : 100 ≤ bs) (k : KN K p xs bc bs) : mj_run (mj_sc K xs 100) k323 mj_Q1 (k323 999) [some (.retAddr 5), some (.ref 0), some (.ref 73), some (.ref 106), some (.int (nI p)), o5, o6] [] (107, I, L, P) bc bs := by
  obtain ⟨-, A, t, hC, hM, hP⟩ := hV
  refine q_5 rfl ?_
  refine q_arg hK hp (by decide) rfl rfl ?_
  refine q_5 rfl ?_
  refine q_69 (mj_sc_mono _ _ _) [_, _, _] rfl rfl rfl (cb (by decide) hb) (cb (by decide) hs) ?_
  refine sc_ev (by decide) (by decide) (p_305 hC hM hP) (fun r σ hw => ?_)
  obtain ⟨n0, I1, L1, P1⟩ := σ
  obtain ⟨e, rfl, rfl, hw⟩ := LQ_e hw
  refine q_6 rfl rfl rfl ?_
  refine q_5 rfl ?_
  refine q_arg hK hp (by decide) rfl rfl ?_
  refine q_47 (mj_sc_mono _ _ _) [_] rfl rfl rfl (by decide) rfl (zb rfl) (zb rfl) ?_
  refine sc_ev (by decide) (by decide) hw (fun r σ hw => ?_)
  obtain ⟨n0, I2, L2, P2⟩ := σ
  obtain ⟨v, rfl, rfl, hV, h0, h6⟩ := LQ2_e hw
  refine q_6 rfl rfl rfl ?_
  refine q_5 rfl ?_
  refine q_47 (mj_sc_mono _ _ _) [] rfl rfl rfl (by decide) rfl (zb rfl) (zb rfl) ?_
  refine mj_ev_sc (by decide) (by decide) (s_162 ?_)
  refine q_3 rfl ?_
  refine q_eqI (fun hh => ?_) (fun hh => absurd h0 hh)
  refine q_3 rfl ?_
  refine q_neI0 (fun hh => ?_) (fun hh => ?_)
  · refine q_23 ?_
    exact k _ _ _ _ _ _ _ hV (le3 (by decide)) (le3 (by decide))
  · refine q_5 rfl ?_
    refine q_0 ?_
    refine q_39 _ rfl (by decide) rfl (by show _ < 1; omega) (by decide) ?_
    refine q_3 rfl ?_
    refine q_15 ?_
    refine q_17 ?_
    refine q_eqI0 (fun hz => ?_) (fun hz => absurd ((lg_cmp_eq _ _).mpr (h6 (Decidable.not_not.mp hh))) hz)
    refine q_23 ?_
    exact k _ _ _ _ _ _ _ hV (le3 (by decide)) (le3 (by decide))
set_option maxHeartbeats 1000000 in
theorem y_1055 (hV : LWV (107, I, L, P)) (hK : K ≤ 3072) (hp : p + 6 ≤ K) (hb : 8 ≤ bc) (hs : 100 ≤ bs) (k : KN K p xs bc bs) : mj_run (mj_sc K xs 100) k323 mj_Q1 (k323 1055) [some (.retAddr 5), some (.ref 0), some (.ref 73), some (.ref 106), some (.int (nI p)), o5, o6] [] (107, I, L, P) bc bs := by
  obtain ⟨-, A, t, hC, hM, hP⟩ := hV
  refine q_5 rfl ?_
  refine q_arg hK hp (by decide) rfl rfl ?_
  refine q_5 rfl ?_
  refine q_69 (mj_sc_mono _ _ _) [_, _, _] rfl rfl rfl (cb (by decide) hb) (cb (by decide) hs) ?_
  refine sc_ev (by decide) (by decide) (p_306 hC hM hP) (fun r σ hw => ?_)
  obtain ⟨n0, I1, L1, P1⟩ := σ
  obtain ⟨e, rfl, rfl, hw⟩ := LQ_e hw
  refine q_6 rfl rfl rfl ?_
  refine q_5 rfl ?_
  refine q_arg hK hp (by decide) rfl rfl ?_
  refine q_47 (mj_sc_mono _ _ _) [_] rfl rfl rfl (by decide) rfl (zb rfl) (zb rfl) ?_
  refine sc_ev (by decide) (by decide) hw (fun r σ hw => ?_)
  obtain ⟨n0, I2, L2, P2⟩ := σ
  obtain ⟨v, rfl, rfl, hV, h0, h6⟩ := LQ2_e hw
  refine q_6 rfl rfl rfl ?_
  refine q_5 rfl ?_
  refine q_47 (mj_sc_mono _ _ _) [] rfl rfl rfl (by decide) rfl (zb rfl) (zb rfl) ?_
  refine mj_ev_sc (by decide) (by decide) (s_162 ?_)
  refine q_3 rfl ?_
  refine q_eqI (fun hh => ?_) (fun hh => absurd h0 hh)
  refine q_3 rfl ?_
  refine q_neI0 (fun hh => ?_) (fun hh => ?_)
  · refine q_23 ?_
    exact k _ _ _ _ _ _ _ hV (le3 (by decide)) (le3 (by decide))
  · refine q_5 rfl ?_
    refine q_0 ?_
    refine q_39 _ rfl (by decide) rfl (by show _ < 1; omega) (by decide) ?_
    refine q_3 rfl ?_
    refine q_15 ?_
    refine q_17 ?_
    refine q_eqI0 (fun hz => ?_) (fun hz => absurd ((lg_cmp_eq _ _).mpr (h6 (Decidable.not_not.mp hh))) hz)
    refine q_23 ?_
    exact k _ _ _ _ _ _ _ hV (le3 (by decide)) (le3 (by decide))
set_option maxHeartbeats 1000000 in
theorem y_1111 (hV : LWV (107, I, L, P)) (hK : K ≤ 3072) (hp : p + 6 ≤ K) (hb : 8 ≤ bc) (hs : 100 ≤ bs) (k : KN K p xs bc bs) : mj_run (mj_sc K xs 100) k323 mj_Q1 (k323 1111) [some (.retAddr 5), some (.ref 0), some (.ref 73), some (.ref 106), some (.int (nI p)), o5, o6] [] (107, I, L, P) bc bs := by
  obtain ⟨-, A, t, hC, hM, hP⟩ := hV
  refine q_5 rfl ?_
  refine q_arg hK hp (by decide) rfl rfl ?_
  refine q_5 rfl ?_
  refine q_69 (mj_sc_mono _ _ _) [_, _, _] rfl rfl rfl (cb (by decide) hb) (cb (by decide) hs) ?_
  refine sc_ev (by decide) (by decide) (p_307 hC hM hP) (fun r σ hw => ?_)
  obtain ⟨n0, I1, L1, P1⟩ := σ
  obtain ⟨e, rfl, rfl, hw⟩ := LQ_e hw
  refine q_6 rfl rfl rfl ?_
  refine q_5 rfl ?_
  refine q_arg hK hp (by decide) rfl rfl ?_
  refine q_47 (mj_sc_mono _ _ _) [_] rfl rfl rfl (by decide) rfl (zb rfl) (zb rfl) ?_
  refine sc_ev (by decide) (by decide) hw (fun r σ hw => ?_)
  obtain ⟨n0, I2, L2, P2⟩ := σ
  obtain ⟨v, rfl, rfl, hV, h0, h6⟩ := LQ2_e hw
  refine q_6 rfl rfl rfl ?_
  refine q_5 rfl ?_
  refine q_47 (mj_sc_mono _ _ _) [] rfl rfl rfl (by decide) rfl (zb rfl) (zb rfl) ?_
  refine mj_ev_sc (by decide) (by decide) (s_162 ?_)
  refine q_3 rfl ?_
  refine q_eqI (fun hh => ?_) (fun hh => absurd h0 hh)
  refine q_3 rfl ?_
  refine q_neI0 (fun hh => ?_) (fun hh => ?_)
  · refine q_23 ?_
    exact k _ _ _ _ _ _ _ hV (le3 (by decide)) (le3 (by decide))
  · refine q_5 rfl ?_
    refine q_0 ?_
    refine q_39 _ rfl (by decide) rfl (by show _ < 1; omega) (by decide) ?_
    refine q_3 rfl ?_
    refine q_15 ?_
    refine q_17 ?_
    refine q_eqI0 (fun hz => ?_) (fun hz => absurd ((lg_cmp_eq _ _).mpr (h6 (Decidable.not_not.mp hh))) hz)
    refine q_23 ?_
    exact k _ _ _ _ _ _ _ hV (le3 (by decide)) (le3 (by decide))
set_option maxHeartbeats 1000000 in
theorem y_1167 (hV : LWV (107, I, L, P)) (hK : K ≤ 3072) (hp : p + 6 ≤ K) (hb : 8 ≤ bc) (hs : 100 ≤ bs) (k : KN K p xs bc bs) : mj_run (mj_sc K xs 100) k323 mj_Q1 (k323 1167) [some (.retAddr 5), some (.ref 0), some (.ref 73), some (.ref 106), some (.int (nI p)), o5, o6] [] (107, I, L, P) bc bs := by
  obtain ⟨-, A, t, hC, hM, hP⟩ := hV
  refine q_5 rfl ?_
  refine q_arg hK hp (by decide) rfl rfl ?_
  refine q_5 rfl ?_
  refine q_69 (mj_sc_mono _ _ _) [_, _, _] rfl rfl rfl (cb (by decide) hb) (cb (by decide) hs) ?_
  refine sc_ev (by decide) (by decide) (p_308 hC hM hP) (fun r σ hw => ?_)
  obtain ⟨n0, I1, L1, P1⟩ := σ
  obtain ⟨e, rfl, rfl, hw⟩ := LQ_e hw
  refine q_6 rfl rfl rfl ?_
  refine q_5 rfl ?_
  refine q_arg hK hp (by decide) rfl rfl ?_
  refine q_47 (mj_sc_mono _ _ _) [_] rfl rfl rfl (by decide) rfl (zb rfl) (zb rfl) ?_
  refine sc_ev (by decide) (by decide) hw (fun r σ hw => ?_)
  obtain ⟨n0, I2, L2, P2⟩ := σ
  obtain ⟨v, rfl, rfl, hV, h0, h6⟩ := LQ2_e hw
  refine q_6 rfl rfl rfl ?_
  refine q_5 rfl ?_
  refine q_47 (mj_sc_mono _ _ _) [] rfl rfl rfl (by decide) rfl (zb rfl) (zb rfl) ?_
  refine mj_ev_sc (by decide) (by decide) (s_162 ?_)
  refine q_3 rfl ?_
  refine q_eqI (fun hh => ?_) (fun hh => absurd h0 hh)
  refine q_3 rfl ?_
  refine q_neI0 (fun hh => ?_) (fun hh => ?_)
  · refine q_23 ?_
    exact k _ _ _ _ _ _ _ hV (le3 (by decide)) (le3 (by decide))
  · refine q_5 rfl ?_
    refine q_0 ?_
    refine q_39 _ rfl (by decide) rfl (by show _ < 1; omega) (by decide) ?_
    refine q_3 rfl ?_
    refine q_15 ?_
    refine q_17 ?_
    refine q_eqI0 (fun hz => ?_) (fun hz => absurd ((lg_cmp_eq _ _).mpr (h6 (Decidable.not_not.mp hh))) hz)
    refine q_23 ?_
    exact k _ _ _ _ _ _ _ hV (le3 (by decide)) (le3 (by decide))
set_option maxHeartbeats 1000000 in
theorem y_1223 (hV : LWV (107, I, L, P)) (hK : K ≤ 3072) (hp : p + 6 ≤ K) (hb : 8 ≤ bc) (hs : 100 ≤ bs) (k : KN K p xs bc bs) : mj_run (mj_sc K xs 100) k323 mj_Q1 (k323 1223) [some (.retAddr 5), some (.ref 0), some (.ref 73), some (.ref 106), some (.int (nI p)), o5, o6] [] (107, I, L, P) bc bs := by
  obtain ⟨-, A, t, hC, hM, hP⟩ := hV
  refine q_5 rfl ?_
  refine q_47 (mj_sc_mono _ _ _) [] rfl rfl rfl (by decide) rfl (cb (by decide) hb) (cb (by decide) hs) ?_
  refine sc_ev (by decide) (by decide) (d_121 hC hM hP) (fun r σ hw => ?_)
  obtain ⟨n0, I1, L1, P1⟩ := σ
  obtain ⟨z, rfl, rfl, hw⟩ := LD_e hw
  refine q_5 rfl ?_
  refine q_47 (mj_sc_mono _ _ _) [] rfl rfl rfl (by decide) rfl (zb rfl) (zb rfl) ?_
  refine sc_ev (by decide) (by decide) hw (fun r σ hw => ?_)
  obtain ⟨n0, I2, L2, P2⟩ := σ
  obtain ⟨rfl, rfl, hV⟩ := LR_e hw
  refine q_eqI (fun hh => ?_) (fun hh => absurd rfl hh)
  exact k _ _ _ _ _ _ _ hV (le2 (by decide)) (le2 (by decide))
set_option maxHeartbeats 1000000 in
theorem y_1236 (hV : LWV (107, I, L, P)) (hK : K ≤ 3072) (hp : p + 6 ≤ K) (hb : 8 ≤ bc) (hs : 100 ≤ bs) (k : KN K p xs bc bs) : mj_run (mj_sc K xs 100) k323 mj_Q1 (k323 1236) [some (.retAddr 5), some (.ref 0), some (.ref 73), some (.ref 106), some (.int (nI p)), o5, o6] [] (107, I, L, P) bc bs := by
  obtain ⟨-, A, t, hC, hM, hP⟩ := hV
  refine q_5 rfl ?_
  refine q_47 (mj_sc_mono _ _ _) [] rfl rfl rfl (by decide) rfl (cb (by decide) hb) (cb (by decide) hs) ?_
  refine sc_ev (by decide) (by decide) (d_122 hC hM hP) (fun r σ hw => ?_)
  obtain ⟨n0, I1, L1, P1⟩ := σ
  obtain ⟨z, rfl, rfl, hw⟩ := LD_e hw
  refine q_5 rfl ?_
  refine q_47 (mj_sc_mono _ _ _) [] rfl rfl rfl (by decide) rfl (zb rfl) (zb rfl) ?_
  refine sc_ev (by decide) (by decide) hw (fun r σ hw => ?_)
  obtain ⟨n0, I2, L2, P2⟩ := σ
  obtain ⟨rfl, rfl, hV⟩ := LR_e hw
  refine q_eqI (fun hh => ?_) (fun hh => absurd rfl hh)
  exact k _ _ _ _ _ _ _ hV (le2 (by decide)) (le2 (by decide))
set_option maxHeartbeats 1000000 in
theorem y_1249 (hV : LWV (107, I, L, P)) (hK : K ≤ 3072) (hp : p + 6 ≤ K) (hb : 8 ≤ bc) (hs : 100 ≤ bs) (k : KN K p xs bc bs) : mj_run (mj_sc K xs 100) k323 mj_Q1 (k323 1249) [some (.retAddr 5), some (.ref 0), some (.ref 73), some (.ref 106), some (.int (nI p)), o5, o6] [] (107, I, L, P) bc bs := by
  obtain ⟨-, A, t, hC, hM, hP⟩ := hV
  refine q_5 rfl ?_
  refine q_47 (mj_sc_mono _ _ _) [] rfl rfl rfl (by decide) rfl (cb (by decide) hb) (cb (by decide) hs) ?_
  refine sc_ev (by decide) (by decide) (d_123 hC hM hP) (fun r σ hw => ?_)
  obtain ⟨n0, I1, L1, P1⟩ := σ
  obtain ⟨z, rfl, rfl, hw⟩ := LD_e hw
  refine q_5 rfl ?_
  refine q_47 (mj_sc_mono _ _ _) [] rfl rfl rfl (by decide) rfl (zb rfl) (zb rfl) ?_
  refine sc_ev (by decide) (by decide) hw (fun r σ hw => ?_)
  obtain ⟨n0, I2, L2, P2⟩ := σ
  obtain ⟨rfl, rfl, hV⟩ := LR_e hw
  refine q_eqI (fun hh => ?_) (fun hh => absurd rfl hh)
  exact k _ _ _ _ _ _ _ hV (le2 (by decide)) (le2 (by decide))
set_option maxHeartbeats 1000000 in
theorem y_1262 (hV : LWV (107, I, L, P)) (hK : K ≤ 3072) (hp : p + 6 ≤ K) (hb : 8 ≤ bc) (hs : 100 ≤ bs) (k : KN K p xs bc bs) : mj_run (mj_sc K xs 100) k323 mj_Q1 (k323 1262) [some (.retAddr 5), some (.ref 0), some (.ref 73), some (.ref 106), some (.int (nI p)), o5, o6] [] (107, I, L, P) bc bs := by
  obtain ⟨-, A, t, hC, hM, hP⟩ := hV
  refine q_5 rfl ?_
  refine q_arg hK hp (by decide) rfl rfl ?_
  refine q_5 rfl ?_
  refine q_69 (mj_sc_mono _ _ _) [_, _, _] rfl rfl rfl (cb (by decide) hb) (cb (by decide) hs) ?_
  refine sc_ev (by decide) (by decide) (p_309 hC hM hP) (fun r σ hw => ?_)
  obtain ⟨n0, I1, L1, P1⟩ := σ
  obtain ⟨e, rfl, rfl, hw⟩ := LQ_e hw
  refine q_6 rfl rfl rfl ?_
  refine q_5 rfl ?_
  refine q_arg hK hp (by decide) rfl rfl ?_
  refine q_47 (mj_sc_mono _ _ _) [_] rfl rfl rfl (by decide) rfl (zb rfl) (zb rfl) ?_
  refine sc_ev (by decide) (by decide) hw (fun r σ hw => ?_)
  obtain ⟨n0, I2, L2, P2⟩ := σ
  obtain ⟨v, rfl, rfl, hV, h0, h6⟩ := LQ2_e hw
  refine q_6 rfl rfl rfl ?_
  refine q_5 rfl ?_
  refine q_47 (mj_sc_mono _ _ _) [] rfl rfl rfl (by decide) rfl (zb rfl) (zb rfl) ?_
  refine mj_ev_sc (by decide) (by decide) (s_162 ?_)
  refine q_3 rfl ?_
  refine q_eqI (fun hh => ?_) (fun hh => absurd h0 hh)
  refine q_3 rfl ?_
  refine q_neI0 (fun hh => ?_) (fun hh => ?_)
  · refine q_23 ?_
    exact k _ _ _ _ _ _ _ hV (le3 (by decide)) (le3 (by decide))
  · refine q_5 rfl ?_
    refine q_0 ?_
    refine q_39 _ rfl (by decide) rfl (by show _ < 1; omega) (by decide) ?_
    refine q_3 rfl ?_
    refine q_15 ?_
    refine q_17 ?_
    refine q_eqI0 (fun hz => ?_) (fun hz => absurd ((lg_cmp_eq _ _).mpr (h6 (Decidable.not_not.mp hh))) hz)
    refine q_23 ?_
    exact k _ _ _ _ _ _ _ hV (le3 (by decide)) (le3 (by decide))
set_option maxHeartbeats 1000000 in
theorem y_1318 (hV : LWV (107, I, L, P)) (hK : K ≤ 3072) (hp : p + 6 ≤ K) (hb : 8 ≤ bc) (hs : 100 ≤ bs) (k : KN K p xs bc bs) : mj_run (mj_sc K xs 100) k323 mj_Q1 (k323 1318) [some (.retAddr 5), some (.ref 0), some (.ref 73), some (.ref 106), some (.int (nI p)), o5, o6] [] (107, I, L, P) bc bs := by
  obtain ⟨-, A, t, hC, hM, hP⟩ := hV
  refine q_5 rfl ?_
  refine q_47 (mj_sc_mono _ _ _) [] rfl rfl rfl (by decide) rfl (cb (by decide) hb) (cb (by decide) hs) ?_
  refine sc_ev (by decide) (by decide) (d_125 hC hM hP) (fun r σ hw => ?_)
  obtain ⟨n0, I1, L1, P1⟩ := σ
  obtain ⟨z, rfl, rfl, hw⟩ := LD_e hw
  refine q_5 rfl ?_
  refine q_47 (mj_sc_mono _ _ _) [] rfl rfl rfl (by decide) rfl (zb rfl) (zb rfl) ?_
  refine sc_ev (by decide) (by decide) hw (fun r σ hw => ?_)
  obtain ⟨n0, I2, L2, P2⟩ := σ
  obtain ⟨rfl, rfl, hV⟩ := LR_e hw
  refine q_17 ?_
  refine q_eqI0 (fun hh => ?_) (fun hh => absurd ((lg_cmp_eq _ _).mpr rfl) hh)
  exact k _ _ _ _ _ _ _ hV (le2 (by decide)) (le2 (by decide))
set_option maxHeartbeats 1000000 in
theorem y_1332 (hV : LWV (107, I, L, P)) (hK : K ≤ 3072) (hp : p + 6 ≤ K) (hb : 8 ≤ bc) (hs : 100 ≤ bs) (k : KN K p xs bc bs) : mj_run (mj_sc K xs 100) k323 mj_Q1 (k323 1332) [some (.retAddr 5), some (.ref 0), some (.ref 73), some (.ref 106), some (.int (nI p)), o5, o6] [] (107, I, L, P) bc bs := by
  obtain ⟨-, A, t, hC, hM, hP⟩ := hV
  refine q_5 rfl ?_
  refine q_arg hK hp (by decide) rfl rfl ?_
  refine q_5 rfl ?_
  refine q_69 (mj_sc_mono _ _ _) [_, _, _] rfl rfl rfl (cb (by decide) hb) (cb (by decide) hs) ?_
  refine sc_ev (by decide) (by decide) (p_310 hC hM hP) (fun r σ hw => ?_)
  obtain ⟨n0, I1, L1, P1⟩ := σ
  obtain ⟨e, rfl, rfl, hw⟩ := LQ_e hw
  refine q_6 rfl rfl rfl ?_
  refine q_5 rfl ?_
  refine q_arg hK hp (by decide) rfl rfl ?_
  refine q_47 (mj_sc_mono _ _ _) [_] rfl rfl rfl (by decide) rfl (zb rfl) (zb rfl) ?_
  refine sc_ev (by decide) (by decide) hw (fun r σ hw => ?_)
  obtain ⟨n0, I2, L2, P2⟩ := σ
  obtain ⟨v, rfl, rfl, hV, h0, h6⟩ := LQ2_e hw
  refine q_6 rfl rfl rfl ?_
  refine q_5 rfl ?_
  refine q_47 (mj_sc_mono _ _ _) [] rfl rfl rfl (by decide) rfl (zb rfl) (zb rfl) ?_
  refine mj_ev_sc (by decide) (by decide) (s_162 ?_)
  refine q_3 rfl ?_
  refine q_eqI (fun hh => ?_) (fun hh => absurd h0 hh)
  refine q_3 rfl ?_
  refine q_neI0 (fun hh => ?_) (fun hh => ?_)
  · refine q_23 ?_
    exact k _ _ _ _ _ _ _ hV (le3 (by decide)) (le3 (by decide))
  · refine q_5 rfl ?_
    refine q_0 ?_
    refine q_39 _ rfl (by decide) rfl (by show _ < 1; omega) (by decide) ?_
    refine q_3 rfl ?_
    refine q_15 ?_
    refine q_17 ?_
    refine q_eqI0 (fun hz => ?_) (fun hz => absurd ((lg_cmp_eq _ _).mpr (h6 (Decidable.not_not.mp hh))) hz)
    refine q_23 ?_
    exact k _ _ _ _ _ _ _ hV (le3 (by decide)) (le3 (by decide))
set_option maxHeartbeats 1000000 in
theorem y_1388 (hV : LWV (107, I, L, P)) (hK : K ≤ 3072) (hp : p + 6 ≤ K) (hb : 8 ≤ bc) (hs : 100 ≤ bs) (k : KN K p xs bc bs) : mj_run (mj_sc K xs 100) k323 mj_Q1 (k323 1388) [some (.retAddr 5), some (.ref 0), some (.ref 73), some (.ref 106), some (.int (nI p)), o5, o6] [] (107, I, L, P) bc bs := by
  obtain ⟨-, A, t, hC, hM, hP⟩ := hV
  refine q_5 rfl ?_
  refine q_arg hK hp (by decide) rfl rfl ?_
  refine q_5 rfl ?_
  refine q_69 (mj_sc_mono _ _ _) [_, _, _] rfl rfl rfl (cb (by decide) hb) (cb (by decide) hs) ?_
  refine sc_ev (by decide) (by decide) (p_311 hC hM hP) (fun r σ hw => ?_)
  obtain ⟨n0, I1, L1, P1⟩ := σ
  obtain ⟨e, rfl, rfl, hw⟩ := LQ_e hw
  refine q_6 rfl rfl rfl ?_
  refine q_5 rfl ?_
  refine q_arg hK hp (by decide) rfl rfl ?_
  refine q_47 (mj_sc_mono _ _ _) [_] rfl rfl rfl (by decide) rfl (zb rfl) (zb rfl) ?_
  refine sc_ev (by decide) (by decide) hw (fun r σ hw => ?_)
  obtain ⟨n0, I2, L2, P2⟩ := σ
  obtain ⟨v, rfl, rfl, hV, h0, h6⟩ := LQ2_e hw
  refine q_6 rfl rfl rfl ?_
  refine q_5 rfl ?_
  refine q_47 (mj_sc_mono _ _ _) [] rfl rfl rfl (by decide) rfl (zb rfl) (zb rfl) ?_
  refine mj_ev_sc (by decide) (by decide) (s_162 ?_)
  refine q_3 rfl ?_
  refine q_eqI (fun hh => ?_) (fun hh => absurd h0 hh)
  refine q_3 rfl ?_
  refine q_neI0 (fun hh => ?_) (fun hh => ?_)
  · refine q_23 ?_
    exact k _ _ _ _ _ _ _ hV (le3 (by decide)) (le3 (by decide))
  · refine q_5 rfl ?_
    refine q_0 ?_
    refine q_39 _ rfl (by decide) rfl (by show _ < 1; omega) (by decide) ?_
    refine q_3 rfl ?_
    refine q_15 ?_
    refine q_17 ?_
    refine q_eqI0 (fun hz => ?_) (fun hz => absurd ((lg_cmp_eq _ _).mpr (h6 (Decidable.not_not.mp hh))) hz)
    refine q_23 ?_
    exact k _ _ _ _ _ _ _ hV (le3 (by decide)) (le3 (by decide))
set_option maxHeartbeats 1000000 in
theorem y_1444 (hV : LWV (107, I, L, P)) (hK : K ≤ 3072) (hp : p + 6 ≤ K) (hb : 8 ≤ bc) (hs : 100 ≤ bs) (k : KN K p xs bc bs) : mj_run (mj_sc K xs 100) k323 mj_Q1 (k323 1444) [some (.retAddr 5), some (.ref 0), some (.ref 73), some (.ref 106), some (.int (nI p)), o5, o6] [] (107, I, L, P) bc bs := by
  obtain ⟨-, A, t, hC, hM, hP⟩ := hV
  refine q_5 rfl ?_
  refine q_arg hK hp (by decide) rfl rfl ?_
  refine q_arg hK hp (by decide) rfl rfl ?_
  refine q_arg hK hp (by decide) rfl rfl ?_
  refine q_5 rfl ?_
  refine q_69 (mj_sc_mono _ _ _) [_, _, _, _, _] rfl rfl rfl (cb (by decide) hb) (cb (by decide) hs) ?_
  refine sc_ev (by decide) (by decide) (p_312 hC hM hP) (fun r σ hw => ?_)
  obtain ⟨n0, I1, L1, P1⟩ := σ
  obtain ⟨e, rfl, rfl, hw⟩ := LQ_e hw
  refine q_6 rfl rfl rfl ?_
  refine q_5 rfl ?_
  refine q_arg hK hp (by decide) rfl rfl ?_
  refine q_arg hK hp (by decide) rfl rfl ?_
  refine q_arg hK hp (by decide) rfl rfl ?_
  refine q_47 (mj_sc_mono _ _ _) [_, _, _] rfl rfl rfl (by decide) rfl (zb rfl) (zb rfl) ?_
  refine sc_ev (by decide) (by decide) hw (fun r σ hw => ?_)
  obtain ⟨n0, I2, L2, P2⟩ := σ
  obtain ⟨v, rfl, rfl, hV, h0, h6⟩ := LQ2_e hw
  refine q_6 rfl rfl rfl ?_
  refine q_5 rfl ?_
  refine q_47 (mj_sc_mono _ _ _) [] rfl rfl rfl (by decide) rfl (zb rfl) (zb rfl) ?_
  refine mj_ev_sc (by decide) (by decide) (s_162 ?_)
  refine q_3 rfl ?_
  refine q_eqI (fun hh => ?_) (fun hh => absurd h0 hh)
  refine q_3 rfl ?_
  refine q_neI0 (fun hh => ?_) (fun hh => ?_)
  · refine q_23 ?_
    exact k _ _ _ _ _ _ _ hV (le3 (by decide)) (le3 (by decide))
  · refine q_5 rfl ?_
    refine q_0 ?_
    refine q_39 _ rfl (by decide) rfl (by show _ < 1; omega) (by decide) ?_
    refine q_3 rfl ?_
    refine q_15 ?_
    refine q_17 ?_
    refine q_eqI0 (fun hz => ?_) (fun hz => absurd ((lg_cmp_eq _ _).mpr (h6 (Decidable.not_not.mp hh))) hz)
    refine q_23 ?_
    exact k _ _ _ _ _ _ _ hV (le3 (by decide)) (le3 (by decide))
set_option maxHeartbeats 1000000 in
theorem y_1524 (hV : LWV (107, I, L, P)) (hK : K ≤ 3072) (hp : p + 6 ≤ K) (hb : 8 ≤ bc) (hs : 100 ≤ bs) (k : KN K p xs bc bs) : mj_run (mj_sc K xs 100) k323 mj_Q1 (k323 1524) [some (.retAddr 5), some (.ref 0), some (.ref 73), some (.ref 106), some (.int (nI p)), o5, o6] [] (107, I, L, P) bc bs := by
  obtain ⟨-, A, t, hC, hM, hP⟩ := hV
  refine q_5 rfl ?_
  refine q_arg hK hp (by decide) rfl rfl ?_
  refine q_5 rfl ?_
  refine q_69 (mj_sc_mono _ _ _) [_, _, _] rfl rfl rfl (cb (by decide) hb) (cb (by decide) hs) ?_
  refine sc_ev (by decide) (by decide) (p_313 hC hM hP) (fun r σ hw => ?_)
  obtain ⟨n0, I1, L1, P1⟩ := σ
  obtain ⟨e, rfl, rfl, hw⟩ := LQ_e hw
  refine q_6 rfl rfl rfl ?_
  refine q_5 rfl ?_
  refine q_arg hK hp (by decide) rfl rfl ?_
  refine q_47 (mj_sc_mono _ _ _) [_] rfl rfl rfl (by decide) rfl (zb rfl) (zb rfl) ?_
  refine sc_ev (by decide) (by decide) hw (fun r σ hw => ?_)
  obtain ⟨n0, I2, L2, P2⟩ := σ
  obtain ⟨v, rfl, rfl, hV, h0, h6⟩ := LQ2_e hw
  refine q_6 rfl rfl rfl ?_
  refine q_5 rfl ?_
  refine q_47 (mj_sc_mono _ _ _) [] rfl rfl rfl (by decide) rfl (zb rfl) (zb rfl) ?_
  refine mj_ev_sc (by decide) (by decide) (s_162 ?_)
  refine q_3 rfl ?_
  refine q_eqI (fun hh => ?_) (fun hh => absurd h0 hh)
  refine q_3 rfl ?_
  refine q_neI0 (fun hh => ?_) (fun hh => ?_)
  · refine q_23 ?_
    exact k _ _ _ _ _ _ _ hV (le3 (by decide)) (le3 (by decide))
  · refine q_5 rfl ?_
    refine q_0 ?_
    refine q_39 _ rfl (by decide) rfl (by show _ < 1; omega) (by decide) ?_
    refine q_3 rfl ?_
    refine q_15 ?_
    refine q_17 ?_
    refine q_eqI0 (fun hz => ?_) (fun hz => absurd ((lg_cmp_eq _ _).mpr (h6 (Decidable.not_not.mp hh))) hz)
    refine q_23 ?_
    exact k _ _ _ _ _ _ _ hV (le3 (by decide)) (le3 (by decide))
set_option maxHeartbeats 1000000 in
theorem y_1580 (hV : LWV (107, I, L, P)) (hK : K ≤ 3072) (hp : p + 6 ≤ K) (hb : 8 ≤ bc) (hs : 100 ≤ bs) (k : KN K p xs bc bs) : mj_run (mj_sc K xs 100) k323 mj_Q1 (k323 1580) [some (.retAddr 5), some (.ref 0), some (.ref 73), some (.ref 106), some (.int (nI p)), o5, o6] [] (107, I, L, P) bc bs := by
  obtain ⟨-, A, t, hC, hM, hP⟩ := hV
  refine q_5 rfl ?_
  refine q_arg hK hp (by decide) rfl rfl ?_
  refine q_arg hK hp (by decide) rfl rfl ?_
  refine q_arg hK hp (by decide) rfl rfl ?_
  refine q_5 rfl ?_
  refine q_69 (mj_sc_mono _ _ _) [_, _, _, _, _] rfl rfl rfl (cb (by decide) hb) (cb (by decide) hs) ?_
  refine sc_ev (by decide) (by decide) (p_314 hC hM hP) (fun r σ hw => ?_)
  obtain ⟨n0, I1, L1, P1⟩ := σ
  obtain ⟨e, rfl, rfl, hw⟩ := LQ_e hw
  refine q_6 rfl rfl rfl ?_
  refine q_5 rfl ?_
  refine q_arg hK hp (by decide) rfl rfl ?_
  refine q_arg hK hp (by decide) rfl rfl ?_
  refine q_arg hK hp (by decide) rfl rfl ?_
  refine q_47 (mj_sc_mono _ _ _) [_, _, _] rfl rfl rfl (by decide) rfl (zb rfl) (zb rfl) ?_
  refine sc_ev (by decide) (by decide) hw (fun r σ hw => ?_)
  obtain ⟨n0, I2, L2, P2⟩ := σ
  obtain ⟨v, rfl, rfl, hV, h0, h6⟩ := LQ2_e hw
  refine q_6 rfl rfl rfl ?_
  refine q_5 rfl ?_
  refine q_47 (mj_sc_mono _ _ _) [] rfl rfl rfl (by decide) rfl (zb rfl) (zb rfl) ?_
  refine mj_ev_sc (by decide) (by decide) (s_162 ?_)
  refine q_3 rfl ?_
  refine q_eqI (fun hh => ?_) (fun hh => absurd h0 hh)
  refine q_3 rfl ?_
  refine q_neI0 (fun hh => ?_) (fun hh => ?_)
  · refine q_23 ?_
    exact k _ _ _ _ _ _ _ hV (le3 (by decide)) (le3 (by decide))
  · refine q_5 rfl ?_
    refine q_0 ?_
    refine q_39 _ rfl (by decide) rfl (by show _ < 1; omega) (by decide) ?_
    refine q_3 rfl ?_
    refine q_15 ?_
    refine q_17 ?_
    refine q_eqI0 (fun hz => ?_) (fun hz => absurd ((lg_cmp_eq _ _).mpr (h6 (Decidable.not_not.mp hh))) hz)
    refine q_23 ?_
    exact k _ _ _ _ _ _ _ hV (le3 (by decide)) (le3 (by decide))
end L
