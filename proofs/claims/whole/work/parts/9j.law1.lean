/-! the law's calls of the class, all alike -/
/-- what a call of the class must come to, so that the law's call of it comes to Q -/
def WQ (e : Nat) (Q : mj_Q) : mj_Q := fun r σ => match r with
  | .inl (some (.int v)) => σ.1 = 107 ∧ Q (.inl (some (.int (nI 0)))) (107, σ.2.1, mj_upL σ.2.2.1 106 0 v.toInt64, σ.2.2.2)
  | .inr e' => σ.1 = 107 ∧ e' = e ∧ Q (.inl (some (.int (nI 1)))) (107, σ.2.1, σ.2.2.1, σ.2.2.2)
  | _ => False
section L
variable {I : mj_I} {L : mj_L} {P : mj_P} {Q : mj_Q} {d : Nat}
theorem u_296 {x1 : Int32} (h : mj_ev d 105 [.ref 0, .int x1] (107, I, L, P) (WQ 0 Q)) : mj_ev (d + 1) 296 [.ref 0, .int x1, .ref 106] (107, I, L, P) Q := by
  refine ⟨rfl, ?_⟩
  show mj_run (mj_ev d) k296 Q (k296 0) [some (.ref 0), some (.int x1), some (.ref 106), none] [] (107, I, L, P) (mj_mc 296) (mj_ms 296)
  refine q_5 rfl ?_
  refine q_0 ?_
  refine q_5 rfl ?_
  refine q_3 rfl ?_
  refine q_66 (mj_ev_mono _) [_] rfl rfl rfl (by decide) rfl rfl rfl ?_
  refine mj_ev_mono _ _ _ _ (WQ 0 Q) _ (fun r σ hw => ?_) h
  obtain ⟨n0, I', L', P'⟩ := σ
  match r, hw with
  | .inl (some (.int v)), hw =>
    obtain ⟨rfl, hw⟩ := hw
    refine q_15 ?_
    refine q_43 0 rfl (by decide) rfl (by decide) (by decide) ?_
    refine q_23 ?_
    refine q_0 ?_
    refine q_26 ?_
    exact hw
  | .inr e', hw =>
    obtain ⟨rfl, rfl, hw⟩ := hw
    refine ⟨_, List.mem_cons_self, rfl, by show 3 < 4; omega, rfl, ?_⟩
    refine q_0 ?_
    refine q_26 ?_
    exact hw
theorem u_297 {x1 x2 : Int32} (h : mj_ev d 106 [.ref 0, .int x1, .int x2] (107, I, L, P) (WQ 0 Q)) : mj_ev (d + 1) 297 [.ref 0, .int x1, .int x2, .ref 106] (107, I, L, P) Q := by
  refine ⟨rfl, ?_⟩
  show mj_run (mj_ev d) k297 Q (k297 0) [some (.ref 0), some (.int x1), some (.int x2), some (.ref 106), none] [] (107, I, L, P) (mj_mc 297) (mj_ms 297)
  refine q_5 rfl ?_
  refine q_0 ?_
  refine q_5 rfl ?_
  refine q_3 rfl ?_
  refine q_3 rfl ?_
  refine q_66 (mj_ev_mono _) [_, _] rfl rfl rfl (by decide) rfl rfl rfl ?_
  refine mj_ev_mono _ _ _ _ (WQ 0 Q) _ (fun r σ hw => ?_) h
  obtain ⟨n0, I', L', P'⟩ := σ
  match r, hw with
  | .inl (some (.int v)), hw =>
    obtain ⟨rfl, hw⟩ := hw
    refine q_15 ?_
    refine q_43 0 rfl (by decide) rfl (by decide) (by decide) ?_
    refine q_23 ?_
    refine q_0 ?_
    refine q_26 ?_
    exact hw
  | .inr e', hw =>
    obtain ⟨rfl, rfl, hw⟩ := hw
    refine ⟨_, List.mem_cons_self, rfl, by show 4 < 5; omega, rfl, ?_⟩
    refine q_0 ?_
    refine q_26 ?_
    exact hw
theorem u_298 {x1 x2 : Int32} (h : mj_ev d 107 [.ref 0, .int x1, .int x2] (107, I, L, P) (WQ 0 Q)) : mj_ev (d + 1) 298 [.ref 0, .int x1, .int x2, .ref 106] (107, I, L, P) Q := by
  refine ⟨rfl, ?_⟩
  show mj_run (mj_ev d) k298 Q (k298 0) [some (.ref 0), some (.int x1), some (.int x2), some (.ref 106), none] [] (107, I, L, P) (mj_mc 298) (mj_ms 298)
  refine q_5 rfl ?_
  refine q_0 ?_
  refine q_5 rfl ?_
  refine q_3 rfl ?_
  refine q_3 rfl ?_
  refine q_66 (mj_ev_mono _) [_, _] rfl rfl rfl (by decide) rfl rfl rfl ?_
  refine mj_ev_mono _ _ _ _ (WQ 0 Q) _ (fun r σ hw => ?_) h
  obtain ⟨n0, I', L', P'⟩ := σ
  match r, hw with
  | .inl (some (.int v)), hw =>
    obtain ⟨rfl, hw⟩ := hw
    refine q_15 ?_
    refine q_43 0 rfl (by decide) rfl (by decide) (by decide) ?_
    refine q_23 ?_
    refine q_0 ?_
    refine q_26 ?_
    exact hw
  | .inr e', hw =>
    obtain ⟨rfl, rfl, hw⟩ := hw
    refine ⟨_, List.mem_cons_self, rfl, by show 4 < 5; omega, rfl, ?_⟩
    refine q_0 ?_
    refine q_26 ?_
    exact hw
theorem u_299 {x1 x2 : Int32} (h : mj_ev d 108 [.ref 0, .int x1, .int x2] (107, I, L, P) (WQ 0 Q)) : mj_ev (d + 1) 299 [.ref 0, .int x1, .int x2, .ref 106] (107, I, L, P) Q := by
  refine ⟨rfl, ?_⟩
  show mj_run (mj_ev d) k299 Q (k299 0) [some (.ref 0), some (.int x1), some (.int x2), some (.ref 106), none] [] (107, I, L, P) (mj_mc 299) (mj_ms 299)
  refine q_5 rfl ?_
  refine q_0 ?_
  refine q_5 rfl ?_
  refine q_3 rfl ?_
  refine q_3 rfl ?_
  refine q_66 (mj_ev_mono _) [_, _] rfl rfl rfl (by decide) rfl rfl rfl ?_
  refine mj_ev_mono _ _ _ _ (WQ 0 Q) _ (fun r σ hw => ?_) h
  obtain ⟨n0, I', L', P'⟩ := σ
  match r, hw with
  | .inl (some (.int v)), hw =>
    obtain ⟨rfl, hw⟩ := hw
    refine q_15 ?_
    refine q_43 0 rfl (by decide) rfl (by decide) (by decide) ?_
    refine q_23 ?_
    refine q_0 ?_
    refine q_26 ?_
    exact hw
  | .inr e', hw =>
    obtain ⟨rfl, rfl, hw⟩ := hw
    refine ⟨_, List.mem_cons_self, rfl, by show 4 < 5; omega, rfl, ?_⟩
    refine q_0 ?_
    refine q_26 ?_
    exact hw
theorem u_300 {x1 x2 : Int32} (h : mj_ev d 110 [.ref 0, .int x1, .int x2] (107, I, L, P) (WQ 0 Q)) : mj_ev (d + 1) 300 [.ref 0, .int x1, .int x2, .ref 106] (107, I, L, P) Q := by
  refine ⟨rfl, ?_⟩
  show mj_run (mj_ev d) k300 Q (k300 0) [some (.ref 0), some (.int x1), some (.int x2), some (.ref 106), none] [] (107, I, L, P) (mj_mc 300) (mj_ms 300)
  refine q_5 rfl ?_
  refine q_0 ?_
  refine q_5 rfl ?_
  refine q_3 rfl ?_
  refine q_3 rfl ?_
  refine q_66 (mj_ev_mono _) [_, _] rfl rfl rfl (by decide) rfl rfl rfl ?_
  refine mj_ev_mono _ _ _ _ (WQ 0 Q) _ (fun r σ hw => ?_) h
  obtain ⟨n0, I', L', P'⟩ := σ
  match r, hw with
  | .inl (some (.int v)), hw =>
    obtain ⟨rfl, hw⟩ := hw
    refine q_15 ?_
    refine q_43 0 rfl (by decide) rfl (by decide) (by decide) ?_
    refine q_23 ?_
    refine q_0 ?_
    refine q_26 ?_
    exact hw
  | .inr e', hw =>
    obtain ⟨rfl, rfl, hw⟩ := hw
    refine ⟨_, List.mem_cons_self, rfl, by show 4 < 5; omega, rfl, ?_⟩
    refine q_0 ?_
    refine q_26 ?_
    exact hw
theorem u_301 {x1 x2 : Int32} (h : mj_ev d 111 [.ref 0, .int x1, .int x2] (107, I, L, P) (WQ 0 Q)) : mj_ev (d + 1) 301 [.ref 0, .int x1, .int x2, .ref 106] (107, I, L, P) Q := by
  refine ⟨rfl, ?_⟩
  show mj_run (mj_ev d) k301 Q (k301 0) [some (.ref 0), some (.int x1), some (.int x2), some (.ref 106), none] [] (107, I, L, P) (mj_mc 301) (mj_ms 301)
  refine q_5 rfl ?_
  refine q_0 ?_
  refine q_5 rfl ?_
  refine q_3 rfl ?_
  refine q_3 rfl ?_
  refine q_66 (mj_ev_mono _) [_, _] rfl rfl rfl (by decide) rfl rfl rfl ?_
  refine mj_ev_mono _ _ _ _ (WQ 0 Q) _ (fun r σ hw => ?_) h
  obtain ⟨n0, I', L', P'⟩ := σ
  match r, hw with
  | .inl (some (.int v)), hw =>
    obtain ⟨rfl, hw⟩ := hw
    refine q_15 ?_
    refine q_43 0 rfl (by decide) rfl (by decide) (by decide) ?_
    refine q_23 ?_
    refine q_0 ?_
    refine q_26 ?_
    exact hw
  | .inr e', hw =>
    obtain ⟨rfl, rfl, hw⟩ := hw
    refine ⟨_, List.mem_cons_self, rfl, by show 4 < 5; omega, rfl, ?_⟩
    refine q_0 ?_
    refine q_26 ?_
    exact hw
theorem u_302 {x1 : Int32} (h : mj_ev d 112 [.ref 0, .int x1] (107, I, L, P) (WQ 0 Q)) : mj_ev (d + 1) 302 [.ref 0, .int x1, .ref 106] (107, I, L, P) Q := by
  refine ⟨rfl, ?_⟩
  show mj_run (mj_ev d) k302 Q (k302 0) [some (.ref 0), some (.int x1), some (.ref 106), none] [] (107, I, L, P) (mj_mc 302) (mj_ms 302)
  refine q_5 rfl ?_
  refine q_0 ?_
  refine q_5 rfl ?_
  refine q_3 rfl ?_
  refine q_66 (mj_ev_mono _) [_] rfl rfl rfl (by decide) rfl rfl rfl ?_
  refine mj_ev_mono _ _ _ _ (WQ 0 Q) _ (fun r σ hw => ?_) h
  obtain ⟨n0, I', L', P'⟩ := σ
  match r, hw with
  | .inl (some (.int v)), hw =>
    obtain ⟨rfl, hw⟩ := hw
    refine q_15 ?_
    refine q_43 0 rfl (by decide) rfl (by decide) (by decide) ?_
    refine q_23 ?_
    refine q_0 ?_
    refine q_26 ?_
    exact hw
  | .inr e', hw =>
    obtain ⟨rfl, rfl, hw⟩ := hw
    refine ⟨_, List.mem_cons_self, rfl, by show 3 < 4; omega, rfl, ?_⟩
    refine q_0 ?_
    refine q_26 ?_
    exact hw
theorem u_305 {x1 : Int32} (h : mj_ev d 116 [.ref 0, .int x1] (107, I, L, P) (WQ 0 Q)) : mj_ev (d + 1) 305 [.ref 0, .int x1, .ref 106] (107, I, L, P) Q := by
  refine ⟨rfl, ?_⟩
  show mj_run (mj_ev d) k305 Q (k305 0) [some (.ref 0), some (.int x1), some (.ref 106), none] [] (107, I, L, P) (mj_mc 305) (mj_ms 305)
  refine q_5 rfl ?_
  refine q_0 ?_
  refine q_5 rfl ?_
  refine q_3 rfl ?_
  refine q_66 (mj_ev_mono _) [_] rfl rfl rfl (by decide) rfl rfl rfl ?_
  refine mj_ev_mono _ _ _ _ (WQ 0 Q) _ (fun r σ hw => ?_) h
  obtain ⟨n0, I', L', P'⟩ := σ
  match r, hw with
  | .inl (some (.int v)), hw =>
    obtain ⟨rfl, hw⟩ := hw
    refine q_15 ?_
    refine q_43 0 rfl (by decide) rfl (by decide) (by decide) ?_
    refine q_23 ?_
    refine q_0 ?_
    refine q_26 ?_
    exact hw
  | .inr e', hw =>
    obtain ⟨rfl, rfl, hw⟩ := hw
    refine ⟨_, List.mem_cons_self, rfl, by show 3 < 4; omega, rfl, ?_⟩
    refine q_0 ?_
    refine q_26 ?_
    exact hw
theorem u_306 {x1 : Int32} (h : mj_ev d 117 [.ref 0, .int x1] (107, I, L, P) (WQ 0 Q)) : mj_ev (d + 1) 306 [.ref 0, .int x1, .ref 106] (107, I, L, P) Q := by
  refine ⟨rfl, ?_⟩
  show mj_run (mj_ev d) k306 Q (k306 0) [some (.ref 0), some (.int x1), some (.ref 106), none] [] (107, I, L, P) (mj_mc 306) (mj_ms 306)
  refine q_5 rfl ?_
  refine q_0 ?_
  refine q_5 rfl ?_
  refine q_3 rfl ?_
  refine q_66 (mj_ev_mono _) [_] rfl rfl rfl (by decide) rfl rfl rfl ?_
  refine mj_ev_mono _ _ _ _ (WQ 0 Q) _ (fun r σ hw => ?_) h
  obtain ⟨n0, I', L', P'⟩ := σ
  match r, hw with
  | .inl (some (.int v)), hw =>
    obtain ⟨rfl, hw⟩ := hw
    refine q_15 ?_
    refine q_43 0 rfl (by decide) rfl (by decide) (by decide) ?_
    refine q_23 ?_
    refine q_0 ?_
    refine q_26 ?_
    exact hw
  | .inr e', hw =>
    obtain ⟨rfl, rfl, hw⟩ := hw
    refine ⟨_, List.mem_cons_self, rfl, by show 3 < 4; omega, rfl, ?_⟩
    refine q_0 ?_
    refine q_26 ?_
    exact hw
theorem u_307 {x1 : Int32} (h : mj_ev d 118 [.ref 0, .int x1] (107, I, L, P) (WQ 1 Q)) : mj_ev (d + 1) 307 [.ref 0, .int x1, .ref 106] (107, I, L, P) Q := by
  refine ⟨rfl, ?_⟩
  show mj_run (mj_ev d) k307 Q (k307 0) [some (.ref 0), some (.int x1), some (.ref 106), none] [] (107, I, L, P) (mj_mc 307) (mj_ms 307)
  refine q_5 rfl ?_
  refine q_0 ?_
  refine q_5 rfl ?_
  refine q_3 rfl ?_
  refine q_66 (mj_ev_mono _) [_] rfl rfl rfl (by decide) rfl rfl rfl ?_
  refine mj_ev_mono _ _ _ _ (WQ 1 Q) _ (fun r σ hw => ?_) h
  obtain ⟨n0, I', L', P'⟩ := σ
  match r, hw with
  | .inl (some (.int v)), hw =>
    obtain ⟨rfl, hw⟩ := hw
    refine q_15 ?_
    refine q_43 0 rfl (by decide) rfl (by decide) (by decide) ?_
    refine q_23 ?_
    refine q_0 ?_
    refine q_26 ?_
    exact hw
  | .inr e', hw =>
    obtain ⟨rfl, rfl, hw⟩ := hw
    refine ⟨_, List.mem_cons_self, rfl, by show 3 < 4; omega, rfl, ?_⟩
    refine q_0 ?_
    refine q_26 ?_
    exact hw
theorem u_308 {x1 : Int32} (h : mj_ev d 119 [.ref 0, .int x1] (107, I, L, P) (WQ 1 Q)) : mj_ev (d + 1) 308 [.ref 0, .int x1, .ref 106] (107, I, L, P) Q := by
  refine ⟨rfl, ?_⟩
  show mj_run (mj_ev d) k308 Q (k308 0) [some (.ref 0), some (.int x1), some (.ref 106), none] [] (107, I, L, P) (mj_mc 308) (mj_ms 308)
  refine q_5 rfl ?_
  refine q_0 ?_
  refine q_5 rfl ?_
  refine q_3 rfl ?_
  refine q_66 (mj_ev_mono _) [_] rfl rfl rfl (by decide) rfl rfl rfl ?_
  refine mj_ev_mono _ _ _ _ (WQ 1 Q) _ (fun r σ hw => ?_) h
  obtain ⟨n0, I', L', P'⟩ := σ
  match r, hw with
  | .inl (some (.int v)), hw =>
    obtain ⟨rfl, hw⟩ := hw
    refine q_15 ?_
    refine q_43 0 rfl (by decide) rfl (by decide) (by decide) ?_
    refine q_23 ?_
    refine q_0 ?_
    refine q_26 ?_
    exact hw
  | .inr e', hw =>
    obtain ⟨rfl, rfl, hw⟩ := hw
    refine ⟨_, List.mem_cons_self, rfl, by show 3 < 4; omega, rfl, ?_⟩
    refine q_0 ?_
    refine q_26 ?_
    exact hw
theorem u_309 {x1 : Int32} (h : mj_ev d 124 [.ref 0, .int x1] (107, I, L, P) (WQ 0 Q)) : mj_ev (d + 1) 309 [.ref 0, .int x1, .ref 106] (107, I, L, P) Q := by
  refine ⟨rfl, ?_⟩
  show mj_run (mj_ev d) k309 Q (k309 0) [some (.ref 0), some (.int x1), some (.ref 106), none] [] (107, I, L, P) (mj_mc 309) (mj_ms 309)
  refine q_5 rfl ?_
  refine q_0 ?_
  refine q_5 rfl ?_
  refine q_3 rfl ?_
  refine q_66 (mj_ev_mono _) [_] rfl rfl rfl (by decide) rfl rfl rfl ?_
  refine mj_ev_mono _ _ _ _ (WQ 0 Q) _ (fun r σ hw => ?_) h
  obtain ⟨n0, I', L', P'⟩ := σ
  match r, hw with
  | .inl (some (.int v)), hw =>
    obtain ⟨rfl, hw⟩ := hw
    refine q_15 ?_
    refine q_43 0 rfl (by decide) rfl (by decide) (by decide) ?_
    refine q_23 ?_
    refine q_0 ?_
    refine q_26 ?_
    exact hw
  | .inr e', hw =>
    obtain ⟨rfl, rfl, hw⟩ := hw
    refine ⟨_, List.mem_cons_self, rfl, by show 3 < 4; omega, rfl, ?_⟩
    refine q_0 ?_
    refine q_26 ?_
    exact hw
theorem u_310 {x1 : Int32} (h : mj_ev d 126 [.ref 0, .int x1] (107, I, L, P) (WQ 0 Q)) : mj_ev (d + 1) 310 [.ref 0, .int x1, .ref 106] (107, I, L, P) Q := by
  refine ⟨rfl, ?_⟩
  show mj_run (mj_ev d) k310 Q (k310 0) [some (.ref 0), some (.int x1), some (.ref 106), none] [] (107, I, L, P) (mj_mc 310) (mj_ms 310)
  refine q_5 rfl ?_
  refine q_0 ?_
  refine q_5 rfl ?_
  refine q_3 rfl ?_
  refine q_66 (mj_ev_mono _) [_] rfl rfl rfl (by decide) rfl rfl rfl ?_
  refine mj_ev_mono _ _ _ _ (WQ 0 Q) _ (fun r σ hw => ?_) h
  obtain ⟨n0, I', L', P'⟩ := σ
  match r, hw with
  | .inl (some (.int v)), hw =>
    obtain ⟨rfl, hw⟩ := hw
    refine q_15 ?_
    refine q_43 0 rfl (by decide) rfl (by decide) (by decide) ?_
    refine q_23 ?_
    refine q_0 ?_
    refine q_26 ?_
    exact hw
  | .inr e', hw =>
    obtain ⟨rfl, rfl, hw⟩ := hw
    refine ⟨_, List.mem_cons_self, rfl, by show 3 < 4; omega, rfl, ?_⟩
    refine q_0 ?_
    refine q_26 ?_
    exact hw
theorem u_311 {x1 : Int32} (h : mj_ev d 127 [.ref 0, .int x1] (107, I, L, P) (WQ 0 Q)) : mj_ev (d + 1) 311 [.ref 0, .int x1, .ref 106] (107, I, L, P) Q := by
  refine ⟨rfl, ?_⟩
  show mj_run (mj_ev d) k311 Q (k311 0) [some (.ref 0), some (.int x1), some (.ref 106), none] [] (107, I, L, P) (mj_mc 311) (mj_ms 311)
  refine q_5 rfl ?_
  refine q_0 ?_
  refine q_5 rfl ?_
  refine q_3 rfl ?_
  refine q_66 (mj_ev_mono _) [_] rfl rfl rfl (by decide) rfl rfl rfl ?_
  refine mj_ev_mono _ _ _ _ (WQ 0 Q) _ (fun r σ hw => ?_) h
  obtain ⟨n0, I', L', P'⟩ := σ
  match r, hw with
  | .inl (some (.int v)), hw =>
    obtain ⟨rfl, hw⟩ := hw
    refine q_15 ?_
    refine q_43 0 rfl (by decide) rfl (by decide) (by decide) ?_
    refine q_23 ?_
    refine q_0 ?_
    refine q_26 ?_
    exact hw
  | .inr e', hw =>
    obtain ⟨rfl, rfl, hw⟩ := hw
    refine ⟨_, List.mem_cons_self, rfl, by show 3 < 4; omega, rfl, ?_⟩
    refine q_0 ?_
    refine q_26 ?_
    exact hw
theorem u_312 {x1 x2 x3 : Int32} (h : mj_ev d 129 [.ref 0, .int x1, .int x2, .int x3] (107, I, L, P) (WQ 0 Q)) : mj_ev (d + 1) 312 [.ref 0, .int x1, .int x2, .int x3, .ref 106] (107, I, L, P) Q := by
  refine ⟨rfl, ?_⟩
  show mj_run (mj_ev d) k312 Q (k312 0) [some (.ref 0), some (.int x1), some (.int x2), some (.int x3), some (.ref 106), none] [] (107, I, L, P) (mj_mc 312) (mj_ms 312)
  refine q_5 rfl ?_
  refine q_0 ?_
  refine q_5 rfl ?_
  refine q_3 rfl ?_
  refine q_3 rfl ?_
  refine q_3 rfl ?_
  refine q_66 (mj_ev_mono _) [_, _, _] rfl rfl rfl (by decide) rfl rfl rfl ?_
  refine mj_ev_mono _ _ _ _ (WQ 0 Q) _ (fun r σ hw => ?_) h
  obtain ⟨n0, I', L', P'⟩ := σ
  match r, hw with
  | .inl (some (.int v)), hw =>
    obtain ⟨rfl, hw⟩ := hw
    refine q_15 ?_
    refine q_43 0 rfl (by decide) rfl (by decide) (by decide) ?_
    refine q_23 ?_
    refine q_0 ?_
    refine q_26 ?_
    exact hw
  | .inr e', hw =>
    obtain ⟨rfl, rfl, hw⟩ := hw
    refine ⟨_, List.mem_cons_self, rfl, by show 5 < 6; omega, rfl, ?_⟩
    refine q_0 ?_
    refine q_26 ?_
    exact hw
theorem u_313 {x1 : Int32} (h : mj_ev d 131 [.ref 0, .int x1] (107, I, L, P) (WQ 0 Q)) : mj_ev (d + 1) 313 [.ref 0, .int x1, .ref 106] (107, I, L, P) Q := by
  refine ⟨rfl, ?_⟩
  show mj_run (mj_ev d) k313 Q (k313 0) [some (.ref 0), some (.int x1), some (.ref 106), none] [] (107, I, L, P) (mj_mc 313) (mj_ms 313)
  refine q_5 rfl ?_
  refine q_0 ?_
  refine q_5 rfl ?_
  refine q_3 rfl ?_
  refine q_66 (mj_ev_mono _) [_] rfl rfl rfl (by decide) rfl rfl rfl ?_
  refine mj_ev_mono _ _ _ _ (WQ 0 Q) _ (fun r σ hw => ?_) h
  obtain ⟨n0, I', L', P'⟩ := σ
  match r, hw with
  | .inl (some (.int v)), hw =>
    obtain ⟨rfl, hw⟩ := hw
    refine q_15 ?_
    refine q_43 0 rfl (by decide) rfl (by decide) (by decide) ?_
    refine q_23 ?_
    refine q_0 ?_
    refine q_26 ?_
    exact hw
  | .inr e', hw =>
    obtain ⟨rfl, rfl, hw⟩ := hw
    refine ⟨_, List.mem_cons_self, rfl, by show 3 < 4; omega, rfl, ?_⟩
    refine q_0 ?_
    refine q_26 ?_
    exact hw
theorem u_314 {x1 x2 x3 : Int32} (h : mj_ev d 133 [.ref 0, .int x1, .int x2, .int x3] (107, I, L, P) (WQ 0 Q)) : mj_ev (d + 1) 314 [.ref 0, .int x1, .int x2, .int x3, .ref 106] (107, I, L, P) Q := by
  refine ⟨rfl, ?_⟩
  show mj_run (mj_ev d) k314 Q (k314 0) [some (.ref 0), some (.int x1), some (.int x2), some (.int x3), some (.ref 106), none] [] (107, I, L, P) (mj_mc 314) (mj_ms 314)
  refine q_5 rfl ?_
  refine q_0 ?_
  refine q_5 rfl ?_
  refine q_3 rfl ?_
  refine q_3 rfl ?_
  refine q_3 rfl ?_
  refine q_66 (mj_ev_mono _) [_, _, _] rfl rfl rfl (by decide) rfl rfl rfl ?_
  refine mj_ev_mono _ _ _ _ (WQ 0 Q) _ (fun r σ hw => ?_) h
  obtain ⟨n0, I', L', P'⟩ := σ
  match r, hw with
  | .inl (some (.int v)), hw =>
    obtain ⟨rfl, hw⟩ := hw
    refine q_15 ?_
    refine q_43 0 rfl (by decide) rfl (by decide) (by decide) ?_
    refine q_23 ?_
    refine q_0 ?_
    refine q_26 ?_
    exact hw
  | .inr e', hw =>
    obtain ⟨rfl, rfl, hw⟩ := hw
    refine ⟨_, List.mem_cons_self, rfl, by show 5 < 6; omega, rfl, ?_⟩
    refine q_0 ?_
    refine q_26 ?_
    exact hw
theorem u_315 {x1 : Int32} (h : mj_ev d 135 [.ref 0, .int x1] (107, I, L, P) (WQ 0 Q)) : mj_ev (d + 1) 315 [.ref 0, .int x1, .ref 106] (107, I, L, P) Q := by
  refine ⟨rfl, ?_⟩
  show mj_run (mj_ev d) k315 Q (k315 0) [some (.ref 0), some (.int x1), some (.ref 106), none] [] (107, I, L, P) (mj_mc 315) (mj_ms 315)
  refine q_5 rfl ?_
  refine q_0 ?_
  refine q_5 rfl ?_
  refine q_3 rfl ?_
  refine q_66 (mj_ev_mono _) [_] rfl rfl rfl (by decide) rfl rfl rfl ?_
  refine mj_ev_mono _ _ _ _ (WQ 0 Q) _ (fun r σ hw => ?_) h
  obtain ⟨n0, I', L', P'⟩ := σ
  match r, hw with
  | .inl (some (.int v)), hw =>
    obtain ⟨rfl, hw⟩ := hw
    refine q_15 ?_
    refine q_43 0 rfl (by decide) rfl (by decide) (by decide) ?_
    refine q_23 ?_
    refine q_0 ?_
    refine q_26 ?_
    exact hw
  | .inr e', hw =>
    obtain ⟨rfl, rfl, hw⟩ := hw
    refine ⟨_, List.mem_cons_self, rfl, by show 3 < 4; omega, rfl, ?_⟩
    refine q_0 ?_
    refine q_26 ?_
    exact hw
theorem u_316 {x1 : Int32} (h : mj_ev d 136 [.ref 0, .int x1] (107, I, L, P) (WQ 0 Q)) : mj_ev (d + 1) 316 [.ref 0, .int x1, .ref 106] (107, I, L, P) Q := by
  refine ⟨rfl, ?_⟩
  show mj_run (mj_ev d) k316 Q (k316 0) [some (.ref 0), some (.int x1), some (.ref 106), none] [] (107, I, L, P) (mj_mc 316) (mj_ms 316)
  refine q_5 rfl ?_
  refine q_0 ?_
  refine q_5 rfl ?_
  refine q_3 rfl ?_
  refine q_66 (mj_ev_mono _) [_] rfl rfl rfl (by decide) rfl rfl rfl ?_
  refine mj_ev_mono _ _ _ _ (WQ 0 Q) _ (fun r σ hw => ?_) h
  obtain ⟨n0, I', L', P'⟩ := σ
  match r, hw with
  | .inl (some (.int v)), hw =>
    obtain ⟨rfl, hw⟩ := hw
    refine q_15 ?_
    refine q_43 0 rfl (by decide) rfl (by decide) (by decide) ?_
    refine q_23 ?_
    refine q_0 ?_
    refine q_26 ?_
    exact hw
  | .inr e', hw =>
    obtain ⟨rfl, rfl, hw⟩ := hw
    refine ⟨_, List.mem_cons_self, rfl, by show 3 < 4; omega, rfl, ?_⟩
    refine q_0 ?_
    refine q_26 ?_
    exact hw
theorem u_320 {x1 x2 : Int32} (h : mj_ev d 145 [.ref 0, .int x1, .int x2] (107, I, L, P) (WQ 0 Q)) : mj_ev (d + 1) 320 [.ref 0, .int x1, .int x2, .ref 106] (107, I, L, P) Q := by
  refine ⟨rfl, ?_⟩
  show mj_run (mj_ev d) k320 Q (k320 0) [some (.ref 0), some (.int x1), some (.int x2), some (.ref 106), none] [] (107, I, L, P) (mj_mc 320) (mj_ms 320)
  refine q_5 rfl ?_
  refine q_0 ?_
  refine q_5 rfl ?_
  refine q_3 rfl ?_
  refine q_3 rfl ?_
  refine q_66 (mj_ev_mono _) [_, _] rfl rfl rfl (by decide) rfl rfl rfl ?_
  refine mj_ev_mono _ _ _ _ (WQ 0 Q) _ (fun r σ hw => ?_) h
  obtain ⟨n0, I', L', P'⟩ := σ
  match r, hw with
  | .inl (some (.int v)), hw =>
    obtain ⟨rfl, hw⟩ := hw
    refine q_15 ?_
    refine q_43 0 rfl (by decide) rfl (by decide) (by decide) ?_
    refine q_23 ?_
    refine q_0 ?_
    refine q_26 ?_
    exact hw
  | .inr e', hw =>
    obtain ⟨rfl, rfl, hw⟩ := hw
    refine ⟨_, List.mem_cons_self, rfl, by show 4 < 5; omega, rfl, ?_⟩
    refine q_0 ?_
    refine q_26 ?_
    exact hw
theorem u_321 {x1 : Int32} (h : mj_ev d 120 [.ref 0, .int x1] (107, I, L, P) (WQ 0 Q)) : mj_ev (d + 1) 321 [.ref 0, .int x1, .ref 106] (107, I, L, P) Q := by
  refine ⟨rfl, ?_⟩
  show mj_run (mj_ev d) k321 Q (k321 0) [some (.ref 0), some (.int x1), some (.ref 106), none] [] (107, I, L, P) (mj_mc 321) (mj_ms 321)
  refine q_5 rfl ?_
  refine q_0 ?_
  refine q_5 rfl ?_
  refine q_3 rfl ?_
  refine q_66 (mj_ev_mono _) [_] rfl rfl rfl (by decide) rfl rfl rfl ?_
  refine mj_ev_mono _ _ _ _ (WQ 0 Q) _ (fun r σ hw => ?_) h
  obtain ⟨n0, I', L', P'⟩ := σ
  match r, hw with
  | .inl (some (.int v)), hw =>
    obtain ⟨rfl, hw⟩ := hw
    refine q_15 ?_
    refine q_43 0 rfl (by decide) rfl (by decide) (by decide) ?_
    refine q_23 ?_
    refine q_0 ?_
    refine q_26 ?_
    exact hw
  | .inr e', hw =>
    obtain ⟨rfl, rfl, hw⟩ := hw
    refine ⟨_, List.mem_cons_self, rfl, by show 3 < 4; omega, rfl, ?_⟩
    refine q_0 ?_
    refine q_26 ?_
    exact hw
theorem u_322 {x1 : Int32} (h : mj_ev d 128 [.ref 0, .int x1] (107, I, L, P) (WQ 0 Q)) : mj_ev (d + 1) 322 [.ref 0, .int x1, .ref 106] (107, I, L, P) Q := by
  refine ⟨rfl, ?_⟩
  show mj_run (mj_ev d) k322 Q (k322 0) [some (.ref 0), some (.int x1), some (.ref 106), none] [] (107, I, L, P) (mj_mc 322) (mj_ms 322)
  refine q_5 rfl ?_
  refine q_0 ?_
  refine q_5 rfl ?_
  refine q_3 rfl ?_
  refine q_66 (mj_ev_mono _) [_] rfl rfl rfl (by decide) rfl rfl rfl ?_
  refine mj_ev_mono _ _ _ _ (WQ 0 Q) _ (fun r σ hw => ?_) h
  obtain ⟨n0, I', L', P'⟩ := σ
  match r, hw with
  | .inl (some (.int v)), hw =>
    obtain ⟨rfl, hw⟩ := hw
    refine q_15 ?_
    refine q_43 0 rfl (by decide) rfl (by decide) (by decide) ?_
    refine q_23 ?_
    refine q_0 ?_
    refine q_26 ?_
    exact hw
  | .inr e', hw =>
    obtain ⟨rfl, rfl, hw⟩ := hw
    refine ⟨_, List.mem_cons_self, rfl, by show 3 < 4; omega, rfl, ?_⟩
    refine q_0 ?_
    refine q_26 ?_
    exact hw
end L
