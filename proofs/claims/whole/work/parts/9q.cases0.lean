/-! the law's cases -/
section L
variable {K p : Nat} {xs : Nat → Int32} {o5 o6 : Option Value} {I : mj_I} {L : mj_L} {P : mj_P} {bc bs : Nat}
set_option maxHeartbeats 1000000 in
theorem y_224 (hV : LWV (107, I, L, P)) (hK : K ≤ 3072) (hp : p + 6 ≤ K) (hb : 8 ≤ bc) (hs : 100 ≤ bs) (k : KN K p xs bc bs) : mj_run (mj_sc K xs 100) k323 mj_Q1 (k323 224) [some (.retAddr 5), some (.ref 0), some (.ref 73), some (.ref 106), some (.int (nI p)), o5, o6] [] (107, I, L, P) bc bs := by
  obtain ⟨-, A, t, hC, hM, hP⟩ := hV
  refine q_5 rfl ?_
  refine q_arg hK hp (by decide) rfl rfl ?_
  refine q_arg hK hp (by decide) rfl rfl ?_
  refine q_arg hK hp (by decide) rfl rfl ?_
  refine q_arg hK hp (by decide) rfl rfl ?_
  refine q_arg hK hp (by decide) rfl rfl ?_
  refine q_47 (mj_sc_mono _ _ _) [_, _, _, _, _] rfl rfl rfl (by decide) rfl (cb (by decide) hb) (cb (by decide) hs) ?_
  refine sc_ev (by decide) (by decide) (d_101 hC hM hP) (fun r σ hw => ?_)
  obtain ⟨n0, I1, L1, P1⟩ := σ
  obtain ⟨z, rfl, rfl, hw⟩ := LD_e hw
  refine q_5 rfl ?_
  refine q_arg hK hp (by decide) rfl rfl ?_
  refine q_arg hK hp (by decide) rfl rfl ?_
  refine q_arg hK hp (by decide) rfl rfl ?_
  refine q_arg hK hp (by decide) rfl rfl ?_
  refine q_arg hK hp (by decide) rfl rfl ?_
  refine q_47 (mj_sc_mono _ _ _) [_, _, _, _, _] rfl rfl rfl (by decide) rfl (zb rfl) (zb rfl) ?_
  refine sc_ev (by decide) (by decide) hw (fun r σ hw => ?_)
  obtain ⟨n0, I2, L2, P2⟩ := σ
  obtain ⟨rfl, rfl, hV⟩ := LR_e hw
  refine q_eqI (fun hh => ?_) (fun hh => absurd rfl hh)
  exact k _ _ _ _ _ _ _ hV (le2 (by decide)) (le2 (by decide))
set_option maxHeartbeats 1000000 in
theorem y_297 (hV : LWV (107, I, L, P)) (hK : K ≤ 3072) (hp : p + 6 ≤ K) (hb : 8 ≤ bc) (hs : 100 ≤ bs) (k : KN K p xs bc bs) : mj_run (mj_sc K xs 100) k323 mj_Q1 (k323 297) [some (.retAddr 5), some (.ref 0), some (.ref 73), some (.ref 106), some (.int (nI p)), o5, o6] [] (107, I, L, P) bc bs := by
  obtain ⟨-, A, t, hC, hM, hP⟩ := hV
  refine q_5 rfl ?_
  refine q_arg hK hp (by decide) rfl rfl ?_
  refine q_5 rfl ?_
  refine q_69 (mj_sc_mono _ _ _) [_, _, _] rfl rfl rfl (cb (by decide) hb) (cb (by decide) hs) ?_
  refine sc_ev (by decide) (by decide) (p_295 hC hM hP) (fun r σ hw => ?_)
  obtain ⟨n0, I1, L1, P1⟩ := σ
  obtain ⟨e, rfl, rfl, hw⟩ := LQ_e hw
  refine q_6 rfl rfl rfl ?_
  refine q_5 rfl ?_
  refine q_arg hK hp (by decide) rfl rfl ?_
  refine q_47 (mj_sc_mono _ _ _) [_] rfl rfl rfl (by decide) rfl (zb rfl) (zb rfl) ?_
  refine sc_ev (by decide) (by decide) hw (fun r σ hw => ?_)
  obtain ⟨n0, I2, L2, P2⟩ := σ
  obtain ⟨v, rfl, rfl, hV, h0, h6⟩ := LQ2_e hw
  refine q_6 rfl rfl rfl ?_
  refine q_5 rfl ?_
  refine q_47 (mj_sc_mono _ _ _) [] rfl rfl rfl (by decide) rfl (zb rfl) (zb rfl) ?_
  refine mj_ev_sc (by decide) (by decide) (s_162 ?_)
  refine q_3 rfl ?_
  refine q_eqI (fun hh => ?_) (fun hh => absurd h0 hh)
  refine q_3 rfl ?_
  refine q_neI0 (fun hh => ?_) (fun hh => ?_)
  · refine q_23 ?_
    exact k _ _ _ _ _ _ _ hV (le3 (by decide)) (le3 (by decide))
  · refine q_5 rfl ?_
    refine q_0 ?_
    refine q_39 _ rfl (by decide) rfl (by show _ < 1; omega) (by decide) ?_
    refine q_3 rfl ?_
    refine q_15 ?_
    refine q_17 ?_
    refine q_eqI0 (fun hz => ?_) (fun hz => absurd ((lg_cmp_eq _ _).mpr (h6 (Decidable.not_not.mp hh))) hz)
    refine q_23 ?_
    exact k _ _ _ _ _ _ _ hV (le3 (by decide)) (le3 (by decide))
set_option maxHeartbeats 1000000 in
theorem y_353 (hV : LWV (107, I, L, P)) (hK : K ≤ 3072) (hp : p + 6 ≤ K) (hb : 8 ≤ bc) (hs : 100 ≤ bs) (k : KN K p xs bc bs) : mj_run (mj_sc K xs 100) k323 mj_Q1 (k323 353) [some (.retAddr 5), some (.ref 0), some (.ref 73), some (.ref 106), some (.int (nI p)), o5, o6] [] (107, I, L, P) bc bs := by
  obtain ⟨-, A, t, hC, hM, hP⟩ := hV
  refine q_5 rfl ?_
  refine q_47 (mj_sc_mono _ _ _) [] rfl rfl rfl (by decide) rfl (cb (by decide) hb) (cb (by decide) hs) ?_
  refine sc_ev (by decide) (by decide) (d_104 hC hM hP) (fun r σ hw => ?_)
  obtain ⟨n0, I1, L1, P1⟩ := σ
  obtain ⟨z, rfl, rfl, hw⟩ := LD_e hw
  refine q_5 rfl ?_
  refine q_47 (mj_sc_mono _ _ _) [] rfl rfl rfl (by decide) rfl (zb rfl) (zb rfl) ?_
  refine sc_ev (by decide) (by decide) hw (fun r σ hw => ?_)
  obtain ⟨n0, I2, L2, P2⟩ := σ
  obtain ⟨rfl, rfl, hV⟩ := LR_e hw
  refine q_eqI (fun hh => ?_) (fun hh => absurd rfl hh)
  exact k _ _ _ _ _ _ _ hV (le2 (by decide)) (le2 (by decide))
set_option maxHeartbeats 1000000 in
theorem y_366 (hV : LWV (107, I, L, P)) (hK : K ≤ 3072) (hp : p + 6 ≤ K) (hb : 8 ≤ bc) (hs : 100 ≤ bs) (k : KN K p xs bc bs) : mj_run (mj_sc K xs 100) k323 mj_Q1 (k323 366) [some (.retAddr 5), some (.ref 0), some (.ref 73), some (.ref 106), some (.int (nI p)), o5, o6] [] (107, I, L, P) bc bs := by
  obtain ⟨-, A, t, hC, hM, hP⟩ := hV
  refine q_5 rfl ?_
  refine q_arg hK hp (by decide) rfl rfl ?_
  refine q_5 rfl ?_
  refine q_69 (mj_sc_mono _ _ _) [_, _, _] rfl rfl rfl (cb (by decide) hb) (cb (by decide) hs) ?_
  refine sc_ev (by decide) (by decide) (p_296 hC hM hP) (fun r σ hw => ?_)
  obtain ⟨n0, I1, L1, P1⟩ := σ
  obtain ⟨e, rfl, rfl, hw⟩ := LQ_e hw
  refine q_6 rfl rfl rfl ?_
  refine q_5 rfl ?_
  refine q_arg hK hp (by decide) rfl rfl ?_
  refine q_47 (mj_sc_mono _ _ _) [_] rfl rfl rfl (by decide) rfl (zb rfl) (zb rfl) ?_
  refine sc_ev (by decide) (by decide) hw (fun r σ hw => ?_)
  obtain ⟨n0, I2, L2, P2⟩ := σ
  obtain ⟨v, rfl, rfl, hV, h0, h6⟩ := LQ2_e hw
  refine q_6 rfl rfl rfl ?_
  refine q_5 rfl ?_
  refine q_47 (mj_sc_mono _ _ _) [] rfl rfl rfl (by decide) rfl (zb rfl) (zb rfl) ?_
  refine mj_ev_sc (by decide) (by decide) (s_162 ?_)
  refine q_3 rfl ?_
  refine q_eqI (fun hh => ?_) (fun hh => absurd h0 hh)
  refine q_3 rfl ?_
  refine q_neI0 (fun hh => ?_) (fun hh => ?_)
  · refine q_23 ?_
    exact k _ _ _ _ _ _ _ hV (le3 (by decide)) (le3 (by decide))
  · refine q_5 rfl ?_
    refine q_0 ?_
    refine q_39 _ rfl (by decide) rfl (by show _ < 1; omega) (by decide) ?_
    refine q_3 rfl ?_
    refine q_15 ?_
    refine q_17 ?_
    refine q_eqI0 (fun hz => ?_) (fun hz => absurd ((lg_cmp_eq _ _).mpr (h6 (Decidable.not_not.mp hh))) hz)
    refine q_23 ?_
    exact k _ _ _ _ _ _ _ hV (le3 (by decide)) (le3 (by decide))
set_option maxHeartbeats 1000000 in
theorem y_422 (hV : LWV (107, I, L, P)) (hK : K ≤ 3072) (hp : p + 6 ≤ K) (hb : 8 ≤ bc) (hs : 100 ≤ bs) (k : KN K p xs bc bs) : mj_run (mj_sc K xs 100) k323 mj_Q1 (k323 422) [some (.retAddr 5), some (.ref 0), some (.ref 73), some (.ref 106), some (.int (nI p)), o5, o6] [] (107, I, L, P) bc bs := by
  obtain ⟨-, A, t, hC, hM, hP⟩ := hV
  refine q_5 rfl ?_
  refine q_arg hK hp (by decide) rfl rfl ?_
  refine q_arg hK hp (by decide) rfl rfl ?_
  refine q_5 rfl ?_
  refine q_69 (mj_sc_mono _ _ _) [_, _, _, _] rfl rfl rfl (cb (by decide) hb) (cb (by decide) hs) ?_
  refine sc_ev (by decide) (by decide) (p_297 hC hM hP) (fun r σ hw => ?_)
  obtain ⟨n0, I1, L1, P1⟩ := σ
  obtain ⟨e, rfl, rfl, hw⟩ := LQ_e hw
  refine q_6 rfl rfl rfl ?_
  refine q_5 rfl ?_
  refine q_arg hK hp (by decide) rfl rfl ?_
  refine q_arg hK hp (by decide) rfl rfl ?_
  refine q_47 (mj_sc_mono _ _ _) [_, _] rfl rfl rfl (by decide) rfl (zb rfl) (zb rfl) ?_
  refine sc_ev (by decide) (by decide) hw (fun r σ hw => ?_)
  obtain ⟨n0, I2, L2, P2⟩ := σ
  obtain ⟨v, rfl, rfl, hV, h0, h6⟩ := LQ2_e hw
  refine q_6 rfl rfl rfl ?_
  refine q_5 rfl ?_
  refine q_47 (mj_sc_mono _ _ _) [] rfl rfl rfl (by decide) rfl (zb rfl) (zb rfl) ?_
  refine mj_ev_sc (by decide) (by decide) (s_162 ?_)
  refine q_3 rfl ?_
  refine q_eqI (fun hh => ?_) (fun hh => absurd h0 hh)
  refine q_3 rfl ?_
  refine q_neI0 (fun hh => ?_) (fun hh => ?_)
  · refine q_23 ?_
    exact k _ _ _ _ _ _ _ hV (le3 (by decide)) (le3 (by decide))
  · refine q_5 rfl ?_
    refine q_0 ?_
    refine q_39 _ rfl (by decide) rfl (by show _ < 1; omega) (by decide) ?_
    refine q_3 rfl ?_
    refine q_15 ?_
    refine q_17 ?_
    refine q_eqI0 (fun hz => ?_) (fun hz => absurd ((lg_cmp_eq _ _).mpr (h6 (Decidable.not_not.mp hh))) hz)
    refine q_23 ?_
    exact k _ _ _ _ _ _ _ hV (le3 (by decide)) (le3 (by decide))
set_option maxHeartbeats 1000000 in
theorem y_490 (hV : LWV (107, I, L, P)) (hK : K ≤ 3072) (hp : p + 6 ≤ K) (hb : 8 ≤ bc) (hs : 100 ≤ bs) (k : KN K p xs bc bs) : mj_run (mj_sc K xs 100) k323 mj_Q1 (k323 490) [some (.retAddr 5), some (.ref 0), some (.ref 73), some (.ref 106), some (.int (nI p)), o5, o6] [] (107, I, L, P) bc bs := by
  obtain ⟨-, A, t, hC, hM, hP⟩ := hV
  refine q_5 rfl ?_
  refine q_arg hK hp (by decide) rfl rfl ?_
  refine q_arg hK hp (by decide) rfl rfl ?_
  refine q_5 rfl ?_
  refine q_69 (mj_sc_mono _ _ _) [_, _, _, _] rfl rfl rfl (cb (by decide) hb) (cb (by decide) hs) ?_
  refine sc_ev (by decide) (by decide) (p_298 hC hM hP) (fun r σ hw => ?_)
  obtain ⟨n0, I1, L1, P1⟩ := σ
  obtain ⟨e, rfl, rfl, hw⟩ := LQ_e hw
  refine q_6 rfl rfl rfl ?_
  refine q_5 rfl ?_
  refine q_arg hK hp (by decide) rfl rfl ?_
  refine q_arg hK hp (by decide) rfl rfl ?_
  refine q_47 (mj_sc_mono _ _ _) [_, _] rfl rfl rfl (by decide) rfl (zb rfl) (zb rfl) ?_
  refine sc_ev (by decide) (by decide) hw (fun r σ hw => ?_)
  obtain ⟨n0, I2, L2, P2⟩ := σ
  obtain ⟨v, rfl, rfl, hV, h0, h6⟩ := LQ2_e hw
  refine q_6 rfl rfl rfl ?_
  refine q_5 rfl ?_
  refine q_47 (mj_sc_mono _ _ _) [] rfl rfl rfl (by decide) rfl (zb rfl) (zb rfl) ?_
  refine mj_ev_sc (by decide) (by decide) (s_162 ?_)
  refine q_3 rfl ?_
  refine q_eqI (fun hh => ?_) (fun hh => absurd h0 hh)
  refine q_3 rfl ?_
  refine q_neI0 (fun hh => ?_) (fun hh => ?_)
  · refine q_23 ?_
    exact k _ _ _ _ _ _ _ hV (le3 (by decide)) (le3 (by decide))
  · refine q_5 rfl ?_
    refine q_0 ?_
    refine q_39 _ rfl (by decide) rfl (by show _ < 1; omega) (by decide) ?_
    refine q_3 rfl ?_
    refine q_15 ?_
    refine q_17 ?_
    refine q_eqI0 (fun hz => ?_) (fun hz => absurd ((lg_cmp_eq _ _).mpr (h6 (Decidable.not_not.mp hh))) hz)
    refine q_23 ?_
    exact k _ _ _ _ _ _ _ hV (le3 (by decide)) (le3 (by decide))
set_option maxHeartbeats 1000000 in
theorem y_558 (hV : LWV (107, I, L, P)) (hK : K ≤ 3072) (hp : p + 6 ≤ K) (hb : 8 ≤ bc) (hs : 100 ≤ bs) (k : KN K p xs bc bs) : mj_run (mj_sc K xs 100) k323 mj_Q1 (k323 558) [some (.retAddr 5), some (.ref 0), some (.ref 73), some (.ref 106), some (.int (nI p)), o5, o6] [] (107, I, L, P) bc bs := by
  obtain ⟨-, A, t, hC, hM, hP⟩ := hV
  refine q_5 rfl ?_
  refine q_arg hK hp (by decide) rfl rfl ?_
  refine q_arg hK hp (by decide) rfl rfl ?_
  refine q_5 rfl ?_
  refine q_69 (mj_sc_mono _ _ _) [_, _, _, _] rfl rfl rfl (cb (by decide) hb) (cb (by decide) hs) ?_
  refine sc_ev (by decide) (by decide) (p_299 hC hM hP) (fun r σ hw => ?_)
  obtain ⟨n0, I1, L1, P1⟩ := σ
  obtain ⟨e, rfl, rfl, hw⟩ := LQ_e hw
  refine q_6 rfl rfl rfl ?_
  refine q_5 rfl ?_
  refine q_arg hK hp (by decide) rfl rfl ?_
  refine q_arg hK hp (by decide) rfl rfl ?_
  refine q_47 (mj_sc_mono _ _ _) [_, _] rfl rfl rfl (by decide) rfl (zb rfl) (zb rfl) ?_
  refine sc_ev (by decide) (by decide) hw (fun r σ hw => ?_)
  obtain ⟨n0, I2, L2, P2⟩ := σ
  obtain ⟨v, rfl, rfl, hV, h0, h6⟩ := LQ2_e hw
  refine q_6 rfl rfl rfl ?_
  refine q_5 rfl ?_
  refine q_47 (mj_sc_mono _ _ _) [] rfl rfl rfl (by decide) rfl (zb rfl) (zb rfl) ?_
  refine mj_ev_sc (by decide) (by decide) (s_162 ?_)
  refine q_3 rfl ?_
  refine q_eqI (fun hh => ?_) (fun hh => absurd h0 hh)
  refine q_3 rfl ?_
  refine q_neI0 (fun hh => ?_) (fun hh => ?_)
  · refine q_23 ?_
    exact k _ _ _ _ _ _ _ hV (le3 (by decide)) (le3 (by decide))
  · refine q_5 rfl ?_
    refine q_0 ?_
    refine q_39 _ rfl (by decide) rfl (by show _ < 1; omega) (by decide) ?_
    refine q_3 rfl ?_
    refine q_15 ?_
    refine q_17 ?_
    refine q_eqI0 (fun hz => ?_) (fun hz => absurd ((lg_cmp_eq _ _).mpr (h6 (Decidable.not_not.mp hh))) hz)
    refine q_23 ?_
    exact k _ _ _ _ _ _ _ hV (le3 (by decide)) (le3 (by decide))
set_option maxHeartbeats 1000000 in
theorem y_626 (hV : LWV (107, I, L, P)) (hK : K ≤ 3072) (hp : p + 6 ≤ K) (hb : 8 ≤ bc) (hs : 100 ≤ bs) (k : KN K p xs bc bs) : mj_run (mj_sc K xs 100) k323 mj_Q1 (k323 626) [some (.retAddr 5), some (.ref 0), some (.ref 73), some (.ref 106), some (.int (nI p)), o5, o6] [] (107, I, L, P) bc bs := by
  obtain ⟨-, A, t, hC, hM, hP⟩ := hV
  refine q_5 rfl ?_
  refine q_arg hK hp (by decide) rfl rfl ?_
  refine q_47 (mj_sc_mono _ _ _) [_] rfl rfl rfl (by decide) rfl (cb (by decide) hb) (cb (by decide) hs) ?_
  refine sc_ev (by decide) (by decide) (d_109 hC hM hP) (fun r σ hw => ?_)
  obtain ⟨n0, I1, L1, P1⟩ := σ
  obtain ⟨z, rfl, rfl, hw⟩ := LD_e hw
  refine q_5 rfl ?_
  refine q_arg hK hp (by decide) rfl rfl ?_
  refine q_47 (mj_sc_mono _ _ _) [_] rfl rfl rfl (by decide) rfl (zb rfl) (zb rfl) ?_
  refine sc_ev (by decide) (by decide) hw (fun r σ hw => ?_)
  obtain ⟨n0, I2, L2, P2⟩ := σ
  obtain ⟨rfl, rfl, hV⟩ := LR_e hw
  refine q_eqI (fun hh => ?_) (fun hh => absurd rfl hh)
  exact k _ _ _ _ _ _ _ hV (le2 (by decide)) (le2 (by decide))
set_option maxHeartbeats 1000000 in
theorem y_651 (hV : LWV (107, I, L, P)) (hK : K ≤ 3072) (hp : p + 6 ≤ K) (hb : 8 ≤ bc) (hs : 100 ≤ bs) (k : KN K p xs bc bs) : mj_run (mj_sc K xs 100) k323 mj_Q1 (k323 651) [some (.retAddr 5), some (.ref 0), some (.ref 73), some (.ref 106), some (.int (nI p)), o5, o6] [] (107, I, L, P) bc bs := by
  obtain ⟨-, A, t, hC, hM, hP⟩ := hV
  refine q_5 rfl ?_
  refine q_arg hK hp (by decide) rfl rfl ?_
  refine q_arg hK hp (by decide) rfl rfl ?_
  refine q_5 rfl ?_
  refine q_69 (mj_sc_mono _ _ _) [_, _, _, _] rfl rfl rfl (cb (by decide) hb) (cb (by decide) hs) ?_
  refine sc_ev (by decide) (by decide) (p_300 hC hM hP) (fun r σ hw => ?_)
  obtain ⟨n0, I1, L1, P1⟩ := σ
  obtain ⟨e, rfl, rfl, hw⟩ := LQ_e hw
  refine q_6 rfl rfl rfl ?_
  refine q_5 rfl ?_
  refine q_arg hK hp (by decide) rfl rfl ?_
  refine q_arg hK hp (by decide) rfl rfl ?_
  refine q_47 (mj_sc_mono _ _ _) [_, _] rfl rfl rfl (by decide) rfl (zb rfl) (zb rfl) ?_
  refine sc_ev (by decide) (by decide) hw (fun r σ hw => ?_)
  obtain ⟨n0, I2, L2, P2⟩ := σ
  obtain ⟨v, rfl, rfl, hV, h0, h6⟩ := LQ2_e hw
  refine q_6 rfl rfl rfl ?_
  refine q_5 rfl ?_
  refine q_47 (mj_sc_mono _ _ _) [] rfl rfl rfl (by decide) rfl (zb rfl) (zb rfl) ?_
  refine mj_ev_sc (by decide) (by decide) (s_162 ?_)
  refine q_3 rfl ?_
  refine q_eqI (fun hh => ?_) (fun hh => absurd h0 hh)
  refine q_3 rfl ?_
  refine q_neI0 (fun hh => ?_) (fun hh => ?_)
  · refine q_23 ?_
    exact k _ _ _ _ _ _ _ hV (le3 (by decide)) (le3 (by decide))
  · refine q_5 rfl ?_
    refine q_0 ?_
    refine q_39 _ rfl (by decide) rfl (by show _ < 1; omega) (by decide) ?_
    refine q_3 rfl ?_
    refine q_15 ?_
    refine q_17 ?_
    refine q_eqI0 (fun hz => ?_) (fun hz => absurd ((lg_cmp_eq _ _).mpr (h6 (Decidable.not_not.mp hh))) hz)
    refine q_23 ?_
    exact k _ _ _ _ _ _ _ hV (le3 (by decide)) (le3 (by decide))
set_option maxHeartbeats 1000000 in
theorem y_719 (hV : LWV (107, I, L, P)) (hK : K ≤ 3072) (hp : p + 6 ≤ K) (hb : 8 ≤ bc) (hs : 100 ≤ bs) (k : KN K p xs bc bs) : mj_run (mj_sc K xs 100) k323 mj_Q1 (k323 719) [some (.retAddr 5), some (.ref 0), some (.ref 73), some (.ref 106), some (.int (nI p)), o5, o6] [] (107, I, L, P) bc bs := by
  obtain ⟨-, A, t, hC, hM, hP⟩ := hV
  refine q_5 rfl ?_
  refine q_arg hK hp (by decide) rfl rfl ?_
  refine q_arg hK hp (by decide) rfl rfl ?_
  refine q_5 rfl ?_
  refine q_69 (mj_sc_mono _ _ _) [_, _, _, _] rfl rfl rfl (cb (by decide) hb) (cb (by decide) hs) ?_
  refine sc_ev (by decide) (by decide) (p_301 hC hM hP) (fun r σ hw => ?_)
  obtain ⟨n0, I1, L1, P1⟩ := σ
  obtain ⟨e, rfl, rfl, hw⟩ := LQ_e hw
  refine q_6 rfl rfl rfl ?_
  refine q_5 rfl ?_
  refine q_arg hK hp (by decide) rfl rfl ?_
  refine q_arg hK hp (by decide) rfl rfl ?_
  refine q_47 (mj_sc_mono _ _ _) [_, _] rfl rfl rfl (by decide) rfl (zb rfl) (zb rfl) ?_
  refine sc_ev (by decide) (by decide) hw (fun r σ hw => ?_)
  obtain ⟨n0, I2, L2, P2⟩ := σ
  obtain ⟨v, rfl, rfl, hV, h0, h6⟩ := LQ2_e hw
  refine q_6 rfl rfl rfl ?_
  refine q_5 rfl ?_
  refine q_47 (mj_sc_mono _ _ _) [] rfl rfl rfl (by decide) rfl (zb rfl) (zb rfl) ?_
  refine mj_ev_sc (by decide) (by decide) (s_162 ?_)
  refine q_3 rfl ?_
  refine q_eqI (fun hh => ?_) (fun hh => absurd h0 hh)
  refine q_3 rfl ?_
  refine q_neI0 (fun hh => ?_) (fun hh => ?_)
  · refine q_23 ?_
    exact k _ _ _ _ _ _ _ hV (le3 (by decide)) (le3 (by decide))
  · refine q_5 rfl ?_
    refine q_0 ?_
    refine q_39 _ rfl (by decide) rfl (by show _ < 1; omega) (by decide) ?_
    refine q_3 rfl ?_
    refine q_15 ?_
    refine q_17 ?_
    refine q_eqI0 (fun hz => ?_) (fun hz => absurd ((lg_cmp_eq _ _).mpr (h6 (Decidable.not_not.mp hh))) hz)
    refine q_23 ?_
    exact k _ _ _ _ _ _ _ hV (le3 (by decide)) (le3 (by decide))
set_option maxHeartbeats 1000000 in
theorem y_787 (hV : LWV (107, I, L, P)) (hK : K ≤ 3072) (hp : p + 6 ≤ K) (hb : 8 ≤ bc) (hs : 100 ≤ bs) (k : KN K p xs bc bs) : mj_run (mj_sc K xs 100) k323 mj_Q1 (k323 787) [some (.retAddr 5), some (.ref 0), some (.ref 73), some (.ref 106), some (.int (nI p)), o5, o6] [] (107, I, L, P) bc bs := by
  obtain ⟨-, A, t, hC, hM, hP⟩ := hV
  refine q_5 rfl ?_
  refine q_arg hK hp (by decide) rfl rfl ?_
  refine q_5 rfl ?_
  refine q_69 (mj_sc_mono _ _ _) [_, _, _] rfl rfl rfl (cb (by decide) hb) (cb (by decide) hs) ?_
  refine sc_ev (by decide) (by decide) (p_302 hC hM hP) (fun r σ hw => ?_)
  obtain ⟨n0, I1, L1, P1⟩ := σ
  obtain ⟨e, rfl, rfl, hw⟩ := LQ_e hw
  refine q_6 rfl rfl rfl ?_
  refine q_5 rfl ?_
  refine q_arg hK hp (by decide) rfl rfl ?_
  refine q_47 (mj_sc_mono _ _ _) [_] rfl rfl rfl (by decide) rfl (zb rfl) (zb rfl) ?_
  refine sc_ev (by decide) (by decide) hw (fun r σ hw => ?_)
  obtain ⟨n0, I2, L2, P2⟩ := σ
  obtain ⟨v, rfl, rfl, hV, h0, h6⟩ := LQ2_e hw
  refine q_6 rfl rfl rfl ?_
  refine q_5 rfl ?_
  refine q_47 (mj_sc_mono _ _ _) [] rfl rfl rfl (by decide) rfl (zb rfl) (zb rfl) ?_
  refine mj_ev_sc (by decide) (by decide) (s_162 ?_)
  refine q_3 rfl ?_
  refine q_eqI (fun hh => ?_) (fun hh => absurd h0 hh)
  refine q_3 rfl ?_
  refine q_neI0 (fun hh => ?_) (fun hh => ?_)
  · refine q_23 ?_
    exact k _ _ _ _ _ _ _ hV (le3 (by decide)) (le3 (by decide))
  · refine q_5 rfl ?_
    refine q_0 ?_
    refine q_39 _ rfl (by decide) rfl (by show _ < 1; omega) (by decide) ?_
    refine q_3 rfl ?_
    refine q_15 ?_
    refine q_17 ?_
    refine q_eqI0 (fun hz => ?_) (fun hz => absurd ((lg_cmp_eq _ _).mpr (h6 (Decidable.not_not.mp hh))) hz)
    refine q_23 ?_
    exact k _ _ _ _ _ _ _ hV (le3 (by decide)) (le3 (by decide))
set_option maxHeartbeats 1000000 in
theorem y_843 (hV : LWV (107, I, L, P)) (hK : K ≤ 3072) (hp : p + 6 ≤ K) (hb : 8 ≤ bc) (hs : 100 ≤ bs) (k : KN K p xs bc bs) : mj_run (mj_sc K xs 100) k323 mj_Q1 (k323 843) [some (.retAddr 5), some (.ref 0), some (.ref 73), some (.ref 106), some (.int (nI p)), o5, o6] [] (107, I, L, P) bc bs := by
  obtain ⟨-, A, t, hC, hM, hP⟩ := hV
  refine q_5 rfl ?_
  refine q_arg hK hp (by decide) rfl rfl ?_
  refine q_arg hK hp (by decide) rfl rfl ?_
  refine q_5 rfl ?_
  refine q_69 (mj_sc_mono _ _ _) [_, _, _, _] rfl rfl rfl (cb (by decide) hb) (cb (by decide) hs) ?_
  refine sc_ev (by decide) (by decide) (p_303 hC hM hP) (fun r σ hw => ?_)
  obtain ⟨n0, I1, L1, P1⟩ := σ
  obtain ⟨e, rfl, rfl, hw⟩ := LQb_e hw
  refine q_6 rfl rfl rfl ?_
  refine q_5 rfl ?_
  refine q_arg hK hp (by decide) rfl rfl ?_
  refine q_arg hK hp (by decide) rfl rfl ?_
  refine q_47 (mj_sc_mono _ _ _) [_, _] rfl rfl rfl (by decide) rfl (zb rfl) (zb rfl) ?_
  refine sc_ev (by decide) (by decide) hw (fun r σ hw => ?_)
  obtain ⟨n0, I2, L2, P2⟩ := σ
  obtain ⟨v, rfl, rfl, hV, h0, h6⟩ := LQ2b_e hw
  refine q_6 rfl rfl rfl ?_
  refine q_5 rfl ?_
  refine q_47 (mj_sc_mono _ _ _) [] rfl rfl rfl (by decide) rfl (zb rfl) (zb rfl) ?_
  refine mj_ev_sc (by decide) (by decide) (s_162 ?_)
  refine q_3 rfl ?_
  refine q_eqI (fun hh => ?_) (fun hh => absurd h0 hh)
  refine q_3 rfl ?_
  refine q_neI0 (fun hh => ?_) (fun hh => ?_)
  · refine q_23 ?_
    exact k _ _ _ _ _ _ _ hV (le3 (by decide)) (le3 (by decide))
  · refine q_5 rfl ?_
    refine q_0 ?_
    refine q_39 _ rfl (by decide) rfl (by show _ < 1; omega) (by decide) ?_
    refine q_3 rfl ?_
    obtain ⟨hv, h6⟩ := h6 (Decidable.not_not.mp hh)
    rcases hv with rfl | rfl
    · refine q_eqI0 (fun hz => ?_) (fun hz => absurd rfl hz)
      refine q_2 ?_
      refine q_17 ?_
      refine q_eqI0 (fun hz => ?_) (fun hz => absurd ((lg_cmp_eq _ _).mpr h6) hz)
      refine q_23 ?_
      exact k _ _ _ _ _ _ _ hV (le3 (by decide)) (le3 (by decide))
    · refine q_eqI0 (fun hz => absurd hz (by decide)) (fun hz => ?_)
      refine q_2 ?_
      refine q_23 ?_
      refine q_17 ?_
      refine q_eqI0 (fun hz => ?_) (fun hz => absurd ((lg_cmp_eq _ _).mpr h6) hz)
      refine q_23 ?_
      exact k _ _ _ _ _ _ _ hV (le3 (by decide)) (le3 (by decide))
set_option maxHeartbeats 1000000 in
theorem y_918 (hV : LWV (107, I, L, P)) (hK : K ≤ 3072) (hp : p + 6 ≤ K) (hb : 8 ≤ bc) (hs : 100 ≤ bs) (k : KN K p xs bc bs) : mj_run (mj_sc K xs 100) k323 mj_Q1 (k323 918) [some (.retAddr 5), some (.ref 0), some (.ref 73), some (.ref 106), some (.int (nI p)), o5, o6] [] (107, I, L, P) bc bs := by
  obtain ⟨-, A, t, hC, hM, hP⟩ := hV
  refine q_5 rfl ?_
  refine q_47 (mj_sc_mono _ _ _) [] rfl rfl rfl (by decide) rfl (cb (by decide) hb) (cb (by decide) hs) ?_
  refine sc_ev (by decide) (by decide) (d_114 hC hM hP) (fun r σ hw => ?_)
  obtain ⟨n0, I1, L1, P1⟩ := σ
  obtain ⟨z, rfl, rfl, hw⟩ := LD_e hw
  refine q_5 rfl ?_
  refine q_47 (mj_sc_mono _ _ _) [] rfl rfl rfl (by decide) rfl (zb rfl) (zb rfl) ?_
  refine sc_ev (by decide) (by decide) hw (fun r σ hw => ?_)
  obtain ⟨n0, I2, L2, P2⟩ := σ
  obtain ⟨rfl, rfl, hV⟩ := LR_e hw
  refine q_eqI (fun hh => ?_) (fun hh => absurd rfl hh)
  exact k _ _ _ _ _ _ _ hV (le2 (by decide)) (le2 (by decide))
set_option maxHeartbeats 1000000 in
theorem y_931 (hV : LWV (107, I, L, P)) (hK : K ≤ 3072) (hp : p + 6 ≤ K) (hb : 8 ≤ bc) (hs : 100 ≤ bs) (k : KN K p xs bc bs) : mj_run (mj_sc K xs 100) k323 mj_Q1 (k323 931) [some (.retAddr 5), some (.ref 0), some (.ref 73), some (.ref 106), some (.int (nI p)), o5, o6] [] (107, I, L, P) bc bs := by
  obtain ⟨-, A, t, hC, hM, hP⟩ := hV
  refine q_5 rfl ?_
  refine q_arg hK hp (by decide) rfl rfl ?_
  refine q_arg hK hp (by decide) rfl rfl ?_
  refine q_5 rfl ?_
  refine q_69 (mj_sc_mono _ _ _) [_, _, _, _] rfl rfl rfl (cb (by decide) hb) (cb (by decide) hs) ?_
  refine sc_ev (by decide) (by decide) (p_304 hC hM hP) (fun r σ hw => ?_)
  obtain ⟨n0, I1, L1, P1⟩ := σ
  obtain ⟨e, rfl, rfl, hw⟩ := LQ_e hw
  refine q_6 rfl rfl rfl ?_
  refine q_5 rfl ?_
  refine q_arg hK hp (by decide) rfl rfl ?_
  refine q_arg hK hp (by decide) rfl rfl ?_
  refine q_47 (mj_sc_mono _ _ _) [_, _] rfl rfl rfl (by decide) rfl (zb rfl) (zb rfl) ?_
  refine sc_ev (by decide) (by decide) hw (fun r σ hw => ?_)
  obtain ⟨n0, I2, L2, P2⟩ := σ
  obtain ⟨v, rfl, rfl, hV, h0, h6⟩ := LQ2_e hw
  refine q_6 rfl rfl rfl ?_
  refine q_5 rfl ?_
  refine q_47 (mj_sc_mono _ _ _) [] rfl rfl rfl (by decide) rfl (zb rfl) (zb rfl) ?_
  refine mj_ev_sc (by decide) (by decide) (s_162 ?_)
  refine q_3 rfl ?_
  refine q_eqI (fun hh => ?_) (fun hh => absurd h0 hh)
  refine q_3 rfl ?_
  refine q_neI0 (fun hh => ?_) (fun hh => ?_)
  · refine q_23 ?_
    exact k _ _ _ _ _ _ _ hV (le3 (by decide)) (le3 (by decide))
  · refine q_5 rfl ?_
    refine q_0 ?_
    refine q_39 _ rfl (by decide) rfl (by show _ < 1; omega) (by decide) ?_
    refine q_3 rfl ?_
    refine q_15 ?_
    refine q_17 ?_
    refine q_eqI0 (fun hz => ?_) (fun hz => absurd ((lg_cmp_eq _ _).mpr (h6 (Decidable.not_not.mp hh))) hz)
    refine q_23 ?_
    exact k _ _ _ _ _ _ _ hV (le3 (by decide)) (le3 (by decide))
end L
