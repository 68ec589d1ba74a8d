/-! the law's calls of the class: bind, and those whose throws are of two kinds -/
def WQ2 (Q : mj_Q) : mj_Q := fun r σ => match r with
  | .inl (some (.int v)) => σ.1 = 107 ∧ Q (.inl (some (.int (nI 0)))) (107, σ.2.1, mj_upL σ.2.2.1 106 0 v.toInt64, σ.2.2.2)
  | .inr 0 => σ.1 = 107 ∧ Q (.inl (some (.int (nI 1)))) (107, σ.2.1, σ.2.2.1, σ.2.2.2)
  | .inr 1 => σ.1 = 107 ∧ Q (.inl (some (.int (nI 2)))) (107, σ.2.1, σ.2.2.1, σ.2.2.2)
  | _ => False
def WQb (Q : mj_Q) : mj_Q := fun r σ => match r with
  | .inl (some (.int v)) => σ.1 = 107 ∧ (v = nI 0 ∨ v = nI 1) ∧ Q (.inl (some (.int (nI 0)))) (107, σ.2.1, mj_upL σ.2.2.1 106 0 v.toInt64, σ.2.2.2)
  | .inr e' => σ.1 = 107 ∧ e' = 0 ∧ Q (.inl (some (.int (nI 1)))) (107, σ.2.1, σ.2.2.1, σ.2.2.2)
  | _ => False
section L
variable {I : mj_I} {L : mj_L} {P : mj_P} {Q : mj_Q} {d : Nat}
theorem u_304 {x1 x2 : Int32} (h : mj_ev d 115 [.ref 0, .int x1, .int x2] (107, I, L, P) (WQ2 Q)) : mj_ev (d + 1) 304 [.ref 0, .int x1, .int x2, .ref 106] (107, I, L, P) Q := by
  refine ⟨rfl, ?_⟩
  show mj_run (mj_ev d) k304 Q (k304 0) [some (.ref 0), some (.int x1), some (.int x2), some (.ref 106), none] [] (107, I, L, P) (mj_mc 304) (mj_ms 304)
  refine q_5 rfl ?_
  refine q_0 ?_
  refine q_5 rfl ?_
  refine q_3 rfl ?_
  refine q_3 rfl ?_
  refine q_66 (mj_ev_mono _) [_, _] rfl rfl rfl (by decide) rfl rfl rfl ?_
  refine mj_ev_mono _ _ _ _ (WQ2 Q) _ (fun r σ hw => ?_) h
  obtain ⟨n0, I', L', P'⟩ := σ
  match r, hw with
  | .inl (some (.int v)), hw =>
    obtain ⟨rfl, hw⟩ := hw
    refine q_15 ?_
    refine q_43 0 rfl (by decide) rfl (by decide) (by decide) ?_
    refine q_23 ?_
    refine q_0 ?_
    refine q_26 ?_
    exact hw
  | .inr 0, hw =>
    obtain ⟨rfl, hw⟩ := hw
    refine ⟨_, List.mem_cons_self, rfl, by show 4 < 5; omega, rfl, ?_⟩
    refine q_0 ?_
    refine q_26 ?_
    exact hw
  | .inr 1, hw =>
    obtain ⟨rfl, hw⟩ := hw
    refine ⟨_, List.mem_cons_of_mem _ List.mem_cons_self, rfl, by show 4 < 5; omega, rfl, ?_⟩
    refine q_0 ?_
    refine q_26 ?_
    exact hw
theorem u_317 {x1 x2 : Int32} (h : mj_ev d 137 [.ref 0, .int x1, .int x2] (107, I, L, P) (WQ2 Q)) : mj_ev (d + 1) 317 [.ref 0, .int x1, .int x2, .ref 106] (107, I, L, P) Q := by
  refine ⟨rfl, ?_⟩
  show mj_run (mj_ev d) k317 Q (k317 0) [some (.ref 0), some (.int x1), some (.int x2), some (.ref 106), none] [] (107, I, L, P) (mj_mc 317) (mj_ms 317)
  refine q_5 rfl ?_
  refine q_0 ?_
  refine q_5 rfl ?_
  refine q_3 rfl ?_
  refine q_3 rfl ?_
  refine q_66 (mj_ev_mono _) [_, _] rfl rfl rfl (by decide) rfl rfl rfl ?_
  refine mj_ev_mono _ _ _ _ (WQ2 Q) _ (fun r σ hw => ?_) h
  obtain ⟨n0, I', L', P'⟩ := σ
  match r, hw with
  | .inl (some (.int v)), hw =>
    obtain ⟨rfl, hw⟩ := hw
    refine q_15 ?_
    refine q_43 0 rfl (by decide) rfl (by decide) (by decide) ?_
    refine q_23 ?_
    refine q_0 ?_
    refine q_26 ?_
    exact hw
  | .inr 0, hw =>
    obtain ⟨rfl, hw⟩ := hw
    refine ⟨_, List.mem_cons_self, rfl, by show 4 < 5; omega, rfl, ?_⟩
    refine q_0 ?_
    refine q_26 ?_
    exact hw
  | .inr 1, hw =>
    obtain ⟨rfl, hw⟩ := hw
    refine ⟨_, List.mem_cons_of_mem _ List.mem_cons_self, rfl, by show 4 < 5; omega, rfl, ?_⟩
    refine q_0 ?_
    refine q_26 ?_
    exact hw
theorem u_318 {x1 x2 x3 : Int32} (h : mj_ev d 140 [.ref 0, .int x1, .int x2, .int x3] (107, I, L, P) (WQ2 Q)) : mj_ev (d + 1) 318 [.ref 0, .int x1, .int x2, .int x3, .ref 106] (107, I, L, P) Q := by
  refine ⟨rfl, ?_⟩
  show mj_run (mj_ev d) k318 Q (k318 0) [some (.ref 0), some (.int x1), some (.int x2), some (.int x3), some (.ref 106), none] [] (107, I, L, P) (mj_mc 318) (mj_ms 318)
  refine q_5 rfl ?_
  refine q_0 ?_
  refine q_5 rfl ?_
  refine q_3 rfl ?_
  refine q_3 rfl ?_
  refine q_3 rfl ?_
  refine q_66 (mj_ev_mono _) [_, _, _] rfl rfl rfl (by decide) rfl rfl rfl ?_
  refine mj_ev_mono _ _ _ _ (WQ2 Q) _ (fun r σ hw => ?_) h
  obtain ⟨n0, I', L', P'⟩ := σ
  match r, hw with
  | .inl (some (.int v)), hw =>
    obtain ⟨rfl, hw⟩ := hw
    refine q_15 ?_
    refine q_43 0 rfl (by decide) rfl (by decide) (by decide) ?_
    refine q_23 ?_
    refine q_0 ?_
    refine q_26 ?_
    exact hw
  | .inr 0, hw =>
    obtain ⟨rfl, hw⟩ := hw
    refine ⟨_, List.mem_cons_self, rfl, by show 5 < 6; omega, rfl, ?_⟩
    refine q_0 ?_
    refine q_26 ?_
    exact hw
  | .inr 1, hw =>
    obtain ⟨rfl, hw⟩ := hw
    refine ⟨_, List.mem_cons_of_mem _ List.mem_cons_self, rfl, by show 5 < 6; omega, rfl, ?_⟩
    refine q_0 ?_
    refine q_26 ?_
    exact hw
theorem u_319 {x1 x2 x3 : Int32} (h : mj_ev d 144 [.ref 0, .int x1, .int x2, .int x3] (107, I, L, P) (WQ2 Q)) : mj_ev (d + 1) 319 [.ref 0, .int x1, .int x2, .int x3, .ref 106] (107, I, L, P) Q := by
  refine ⟨rfl, ?_⟩
  show mj_run (mj_ev d) k319 Q (k319 0) [some (.ref 0), some (.int x1), some (.int x2), some (.int x3), some (.ref 106), none] [] (107, I, L, P) (mj_mc 319) (mj_ms 319)
  refine q_5 rfl ?_
  refine q_0 ?_
  refine q_5 rfl ?_
  refine q_3 rfl ?_
  refine q_3 rfl ?_
  refine q_3 rfl ?_
  refine q_66 (mj_ev_mono _) [_, _, _] rfl rfl rfl (by decide) rfl rfl rfl ?_
  refine mj_ev_mono _ _ _ _ (WQ2 Q) _ (fun r σ hw => ?_) h
  obtain ⟨n0, I', L', P'⟩ := σ
  match r, hw with
  | .inl (some (.int v)), hw =>
    obtain ⟨rfl, hw⟩ := hw
    refine q_15 ?_
    refine q_43 0 rfl (by decide) rfl (by decide) (by decide) ?_
    refine q_23 ?_
    refine q_0 ?_
    refine q_26 ?_
    exact hw
  | .inr 0, hw =>
    obtain ⟨rfl, hw⟩ := hw
    refine ⟨_, List.mem_cons_self, rfl, by show 5 < 6; omega, rfl, ?_⟩
    refine q_0 ?_
    refine q_26 ?_
    exact hw
  | .inr 1, hw =>
    obtain ⟨rfl, hw⟩ := hw
    refine ⟨_, List.mem_cons_of_mem _ List.mem_cons_self, rfl, by show 5 < 6; omega, rfl, ?_⟩
    refine q_0 ?_
    refine q_26 ?_
    exact hw
theorem u_303 {x1 x2 : Int32} (h : mj_ev d 113 [.ref 0, .int x1, .int x2] (107, I, L, P) (WQb Q)) : mj_ev (d + 1) 303 [.ref 0, .int x1, .int x2, .ref 106] (107, I, L, P) Q := by
  refine ⟨rfl, ?_⟩
  show mj_run (mj_ev d) k303 Q (k303 0) [some (.ref 0), some (.int x1), some (.int x2), some (.ref 106), none] [] (107, I, L, P) (mj_mc 303) (mj_ms 303)
  refine q_5 rfl ?_
  refine q_0 ?_
  refine q_5 rfl ?_
  refine q_3 rfl ?_
  refine q_3 rfl ?_
  refine q_66 (mj_ev_mono _) [_, _] rfl rfl rfl (by decide) rfl rfl rfl ?_
  refine mj_ev_mono _ _ _ _ (WQb Q) _ (fun r σ hw => ?_) h
  obtain ⟨n0, I', L', P'⟩ := σ
  match r, hw with
  | .inl (some (.int v)), hw =>
    obtain ⟨rfl, hv, hw⟩ := hw
    rcases hv with rfl | rfl
    · refine q_eqI0 (fun hh => ?_) (fun hh => absurd rfl hh)
      refine q_2 ?_
      refine q_43 0 rfl (by decide) rfl (by decide) (by decide) ?_
      refine q_23 ?_
      refine q_0 ?_
      refine q_26 ?_
      exact hw
    · refine q_eqI0 (fun hh => absurd hh (by decide)) (fun hh => ?_)
      refine q_2 ?_
      refine q_23 ?_
      refine q_43 0 rfl (by decide) rfl (by decide) (by decide) ?_
      refine q_23 ?_
      refine q_0 ?_
      refine q_26 ?_
      exact hw
  | .inr e', hw =>
    obtain ⟨rfl, rfl, hw⟩ := hw
    refine ⟨_, List.mem_cons_self, rfl, by show 4 < 5; omega, rfl, ?_⟩
    refine q_0 ?_
    refine q_26 ?_
    exact hw
end L
