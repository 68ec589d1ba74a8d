/-! the law's calls of the class -/
section L
variable {I : mj_I} {L : mj_L} {P : mj_P} {Q : mj_Q} {d n t : Nat} {A : AS}
theorem w_295 {N : Nat} (hP : PS t P) (hS : CS A I) (hN : N ≤ A.td) (k : ∀ I' P' t', PS t' P' → CS (A.read N).1 I' → (∀ c j, 73 ≤ c → I' c j = I c j) → Q (.inl (some (.int (nI 0)))) (107, I', mj_upL L 106 0 (nI (A.read N).2).toInt64, P')) : mj_ev (d + 64) 295 [.ref 0, .int (nI N), .ref 106] (107, I, L, P) Q := by
  refine ⟨rfl, ?_⟩
  show mj_run (mj_ev (d + 63)) k295 Q (k295 0) [some (.ref 0), some (.int (nI N)), some (.ref 106), none] [] (107, I, L, P) 1 6
  refine q_5 rfl ?_
  refine q_0 ?_
  refine q_5 rfl ?_
  refine q_3 rfl ?_
  refine q_66 (mj_ev_mono _) [_] rfl rfl rfl (by decide) rfl rfl rfl ?_
  refine c_103 hP hS hN (fun I' P' t' h1 h2 h3 => ?_)
  refine q_15 ?_
  refine q_43 _ rfl (by decide) rfl (by show _ < 1; omega) (by decide) ?_
  refine q_23 ?_
  refine q_0 ?_
  refine q_26 ?_
  exact k I' P' t' h1 h2 h3
theorem w_295F {x : Int32} (hS : CS A I) (hx : x < 0 ∨ nI A.td < x) (k : kC Q I L P A (.inl (some (.int (nI 1))))) : mj_ev (d + 13) 295 [.ref 0, .int x, .ref 106] (107, I, L, P) Q := by
  refine ⟨rfl, ?_⟩
  show mj_run (mj_ev (d + 12)) k295 Q (k295 0) [some (.ref 0), some (.int x), some (.ref 106), none] [] (107, I, L, P) 1 6
  refine q_5 rfl ?_
  refine q_0 ?_
  refine q_5 rfl ?_
  refine q_3 rfl ?_
  refine q_66 (mj_ev_mono _) [_] rfl rfl rfl (by decide) rfl rfl rfl ?_
  refine c_103F hS hx (fun I' L' h1 h2 h3 => ?_)
  refine ⟨_, List.mem_cons_self, rfl, by show 3 < 4; omega, rfl, ?_⟩
  refine q_0 ?_
  refine q_26 ?_
  exact k I' L' h1 h2 h3
end L
