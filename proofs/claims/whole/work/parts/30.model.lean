/-! the model's small methods -/
section M
variable {I : mj_I} {L : mj_L} {P : mj_P} {Q : mj_Q} {d n r t : Nat}
theorem s_216 (hP : PS t P) (hn : I 73 1 = nI n) (hn10 : n ≤ 10) (hr : r ≤ 33) (k : Q (.inl (some (.int (sumF (fun p => I 89 (r + 12 + p)) n)))) (107, I, L, P)) : mj_ev (d + 1) 216 [.ref 73, .int (nI r)] (107, I, L, P) Q := by
  refine ⟨rfl, ?_⟩
  have L4 : ∀ i, i ≤ n → mj_run (mj_ev d) k216 Q (k216 4) [some (.ref 73), some (.int (nI r)), some (.int (sumF (fun p => I 89 (r + 12 + p)) i)), some (.int (nI i))] [] (107, I, L, P) 0 0 := by
    refine loop_up ?_ (fun i hi ih => ?_)
    · refine q_3 rfl ?_
      refine q_5 rfl ?_
      first | refine q_31E rfl (by decide) hn ?_ | refine q_31 rfl (by decide) ?_
      refine q_geN (by omega) (by omega) (fun hh => ?_) (fun hh => absurd hh (by omega))
      refine q_3 rfl ?_
      refine q_26 ?_
      exact k
    · refine q_3 rfl ?_
      refine q_5 rfl ?_
      first | refine q_31E rfl (by decide) hn ?_ | refine q_31 rfl (by decide) ?_
      refine q_geN (by omega) (by omega) (fun hh => absurd hh (by omega)) (fun hh => ?_)
      refine q_3 rfl ?_
      refine q_5 rfl ?_
      refine q_33 rfl (by decide) (hP _ _ _ rfl) ?_
      refine q_3 rfl ?_
      refine q_0 ?_
      first | refine q_add ?_ | refine q_11 rfl ?_
      refine q_3 rfl ?_
      first | refine q_add ?_ | refine q_11 rfl ?_
      refine q_38 _ rfl (by decide) rfl (by show _ < 66; omega) (by decide) ?_
      first | refine q_add ?_ | refine q_11 rfl ?_
      refine q_6 rfl rfl rfl ?_
      first | refine q_inc rfl rfl rfl ?_ | refine q_9 rfl rfl rfl ?_
      refine q_23 ?_
      exact ih
  show mj_run (mj_ev d) k216 Q (k216 0) [some (.ref 73), some (.int (nI r)), none, none] [] (107, I, L, P) 0 0
  refine q_0 ?_
  refine q_6 rfl rfl rfl ?_
  refine q_0 ?_
  refine q_6 rfl rfl rfl ?_
  exact L4 0 (by omega)
end M
