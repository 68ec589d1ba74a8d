/-! the law comes to true, whatever its script -/
theorem z_cs {I : mj_I} (h : CS A0 I) : CS A0 (mj_seI I 106 (fun _ => 0)) := h.ext (fun c j hc => by
  unfold mj_seI
  rw [if_neg (by omega)])
theorem z_ms {I : mj_I} {L : mj_L} (h : MS A0 I L) : MS A0 (mj_seI I 106 (fun _ => 0)) (mj_seL L 106 (fun _ => 0)) := h.ext (fun c j _ hc => by
  unfold mj_seI
  rw [if_neg (by omega)]) (by
  unfold mj_seL
  rw [if_neg (by decide)])
theorem z_ps {P : mj_P} (h : PS 16 P) : PS 16 (mj_seP P 106 (fun _ => none)) := by
  intro c j r e
  unfold mj_seP
  by_cases hc : c = 106
  · subst hc
    unfold mj_P0 at e
    rw [if_neg (fun q => absurd q.1 (by decide))] at e
    exact absurd e (by
      show ¬ (([] : List (Option Nat)).getD j none = some r)
      rw [List.getD_nil]
      exact fun q => by cases q)
  · rw [if_neg hc]
    exact h c j r e
theorem mj_main : mj_Main := by
  intro K xs hK
  obtain ⟨I1, L1, P1, I, L, P, e1, e2, hz⟩ := z_all
  show mj_run (mj_sc K xs 100) k323 mj_Q1 (k323 0) [some (.retAddr 5), none, none, none, none, none, none] [] (0, fun _ _ => 0, fun _ _ => 0, fun _ _ => none) 601024 7293034
  refine q_52 rfl rfl rfl ?_
  refine q_18 rfl ?_
  refine q_49 (mj_sc_mono _ _ _) [] rfl rfl rfl rfl rfl ?_
  refine mj_ev_sc (by decide) (by decide) (gv_ok _ _ _ _ _ e1 _ ?_)
  refine q_8 rfl rfl rfl ?_
  refine q_52 rfl rfl rfl ?_
  refine q_18 rfl ?_
  refine q_49 (mj_sc_mono _ _ _) [] rfl rfl rfl rfl rfl ?_
  refine mj_ev_sc (by decide) (by decide) (gv_ok _ _ _ _ _ e2 _ ?_)
  refine q_8 rfl rfl rfl ?_
  refine q_0 ?_
  refine q_53 rfl rfl rfl rfl ?_
  refine q_8 rfl rfl rfl ?_
  refine q_0 ?_
  refine q_6 rfl rfl rfl ?_
  have h1 : 24592 ≤ 601024 - 1 - mj_mc 100 - 1 - mj_mc 161 - 1 := by decide
  have h2 : 307400 ≤ 7293034 - mj_ln 0 - mj_ms 100 - mj_ln 73 - mj_ms 161 - mj_ln 106 := by decide
  refine y_loop hK K 0 _ _ _ _ _ _ _ (by omega) (by omega) (Or.inl rfl) ⟨rfl, A0, 16, z_cs (zc_cs hz), z_ms (zc_ms hz), z_ps (zc_ps hz)⟩ ?_ ?_
  · show 8 * K + 16 ≤ 601024 - 1 - mj_mc 100 - 1 - mj_mc 161 - 1
    omega
  · show 100 * K + 200 ≤ 7293034 - mj_ln 0 - mj_ms 100 - mj_ln 73 - mj_ms 161 - mj_ln 106
    omega
