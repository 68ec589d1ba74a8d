/-! the class's calls with wrong arguments -/
section C
variable {I : mj_I} {L : mj_L} {P : mj_P} {Q : mj_Q} {d n r t a b : Nat} {A : AS} {w : WT} {c h : Nat → Nat} {m : MM}
theorem c_107F1 {x y : Int32} (hP : PS t P) (hS : CS A I) (hx : x < 0 ∨ nI A.w.n ≤ x) (k : kC Q I L P A (.inr 0)) : mj_ev (d + 12) 107 [.ref 0, .int x, .int y] (107, I, L, P) Q := by
  refine ⟨rfl, ?_⟩
  have hn := hS.cb.hn
  have hn10 := hS.cb.n10
  show mj_run (mj_ev (d + 11)) k107 Q (k107 0) [some (.ref 0), some (.int x), some (.int y)] [] (107, I, L, P) 2 12
  refine q_5 rfl ?_
  refine q_3 rfl ?_
  refine q_47 (mj_ev_mono _) [_] rfl rfl rfl (by decide) rfl rfl rfl ?_
  refine c_149F hP hn hn10 hx ?_
  exact k.same hS rfl
  skip
theorem c_108F1 {x y : Int32} (hP : PS t P) (hS : CS A I) (hx : x < 0 ∨ nI A.w.n ≤ x) (k : kC Q I L P A (.inr 0)) : mj_ev (d + 12) 108 [.ref 0, .int x, .int y] (107, I, L, P) Q := by
  refine ⟨rfl, ?_⟩
  have hn := hS.cb.hn
  have hn10 := hS.cb.n10
  show mj_run (mj_ev (d + 11)) k108 Q (k108 0) [some (.ref 0), some (.int x), some (.int y), none] [] (107, I, L, P) 2 12
  refine q_5 rfl ?_
  refine q_3 rfl ?_
  refine q_47 (mj_ev_mono _) [_] rfl rfl rfl (by decide) rfl rfl rfl ?_
  refine c_149F hP hn hn10 hx ?_
  exact k.same hS rfl
  skip
theorem c_110F1 {x y : Int32} (hP : PS t P) (hS : CS A I) (hx : x < 0 ∨ nI A.w.n ≤ x) (k : kC Q I L P A (.inr 0)) : mj_ev (d + 12) 110 [.ref 0, .int x, .int y] (107, I, L, P) Q := by
  refine ⟨rfl, ?_⟩
  have hn := hS.cb.hn
  have hn10 := hS.cb.n10
  show mj_run (mj_ev (d + 11)) k110 Q (k110 0) [some (.ref 0), some (.int x), some (.int y), none] [] (107, I, L, P) 1 6
  refine q_5 rfl ?_
  refine q_3 rfl ?_
  refine q_47 (mj_ev_mono _) [_] rfl rfl rfl (by decide) rfl rfl rfl ?_
  refine c_149F hP hn hn10 hx ?_
  exact k.same hS rfl
  skip
theorem c_111F1 {x y : Int32} (hP : PS t P) (hS : CS A I) (hx : x < 0 ∨ nI A.w.n ≤ x) (k : kC Q I L P A (.inr 0)) : mj_ev (d + 12) 111 [.ref 0, .int x, .int y] (107, I, L, P) Q := by
  refine ⟨rfl, ?_⟩
  have hn := hS.cb.hn
  have hn10 := hS.cb.n10
  show mj_run (mj_ev (d + 11)) k111 Q (k111 0) [some (.ref 0), some (.int x), some (.int y)] [] (107, I, L, P) 1 6
  refine q_5 rfl ?_
  refine q_3 rfl ?_
  refine q_47 (mj_ev_mono _) [_] rfl rfl rfl (by decide) rfl rfl rfl ?_
  refine c_149F hP hn hn10 hx ?_
  exact k.same hS rfl
  skip
theorem c_112F1 {x : Int32} (hP : PS t P) (hS : CS A I) (hx : x < 0 ∨ nI A.w.n ≤ x) (k : kC Q I L P A (.inr 0)) : mj_ev (d + 12) 112 [.ref 0, .int x] (107, I, L, P) Q := by
  refine ⟨rfl, ?_⟩
  have hn := hS.cb.hn
  have hn10 := hS.cb.n10
  show mj_run (mj_ev (d + 11)) k112 Q (k112 0) [some (.ref 0), some (.int x), none] [] (107, I, L, P) 1 6
  refine q_5 rfl ?_
  refine q_3 rfl ?_
  refine q_47 (mj_ev_mono _) [_] rfl rfl rfl (by decide) rfl rfl rfl ?_
  refine c_149F hP hn hn10 hx ?_
  exact k.same hS rfl
  skip
theorem c_113F1 {x y : Int32} (hP : PS t P) (hS : CS A I) (hx : x < 0 ∨ nI A.w.n ≤ x) (k : kC Q I L P A (.inr 0)) : mj_ev (d + 12) 113 [.ref 0, .int x, .int y] (107, I, L, P) Q := by
  refine ⟨rfl, ?_⟩
  have hn := hS.cb.hn
  have hn10 := hS.cb.n10
  show mj_run (mj_ev (d + 11)) k113 Q (k113 0) [some (.ref 0), some (.int x), some (.int y)] [] (107, I, L, P) 2 12
  refine q_5 rfl ?_
  refine q_3 rfl ?_
  refine q_47 (mj_ev_mono _) [_] rfl rfl rfl (by decide) rfl rfl rfl ?_
  refine c_149F hP hn hn10 hx ?_
  exact k.same hS rfl
  skip
theorem c_115F1 {x y : Int32} (hP : PS t P) (hS : CS A I) (hx : x < 0 ∨ nI A.w.n ≤ x) (k : kC Q I L P A (.inr 0)) : mj_ev (d + 12) 115 [.ref 0, .int x, .int y] (107, I, L, P) Q := by
  refine ⟨rfl, ?_⟩
  have hn := hS.cb.hn
  have hn10 := hS.cb.n10
  show mj_run (mj_ev (d + 11)) k115 Q (k115 0) [some (.ref 0), some (.int x), some (.int y)] [] (107, I, L, P) 2 12
  refine q_5 rfl ?_
  refine q_3 rfl ?_
  refine q_47 (mj_ev_mono _) [_] rfl rfl rfl (by decide) rfl rfl rfl ?_
  refine c_149F hP hn hn10 hx ?_
  exact k.same hS rfl
  skip
theorem c_116F1 {x : Int32} (hP : PS t P) (hS : CS A I) (hx : x < 0 ∨ nI A.w.n ≤ x) (k : kC Q I L P A (.inr 0)) : mj_ev (d + 12) 116 [.ref 0, .int x] (107, I, L, P) Q := by
  refine ⟨rfl, ?_⟩
  have hn := hS.cb.hn
  have hn10 := hS.cb.n10
  show mj_run (mj_ev (d + 11)) k116 Q (k116 0) [some (.ref 0), some (.int x), none] [] (107, I, L, P) 1 6
  refine q_5 rfl ?_
  refine q_3 rfl ?_
  refine q_47 (mj_ev_mono _) [_] rfl rfl rfl (by decide) rfl rfl rfl ?_
  refine c_149F hP hn hn10 hx ?_
  exact k.same hS rfl
  skip
theorem c_117F1 {x : Int32} (hP : PS t P) (hS : CS A I) (hx : x < 0 ∨ nI A.w.n ≤ x) (k : kC Q I L P A (.inr 0)) : mj_ev (d + 12) 117 [.ref 0, .int x] (107, I, L, P) Q := by
  refine ⟨rfl, ?_⟩
  have hn := hS.cb.hn
  have hn10 := hS.cb.n10
  show mj_run (mj_ev (d + 11)) k117 Q (k117 0) [some (.ref 0), some (.int x)] [] (107, I, L, P) 1 6
  refine q_5 rfl ?_
  refine q_3 rfl ?_
  refine q_47 (mj_ev_mono _) [_] rfl rfl rfl (by decide) rfl rfl rfl ?_
  refine c_149F hP hn hn10 hx ?_
  exact k.same hS rfl
  skip
theorem c_120F1 {x : Int32} (hP : PS t P) (hS : CS A I) (hx : x < 0 ∨ nI A.w.n ≤ x) (k : kC Q I L P A (.inr 0)) : mj_ev (d + 12) 120 [.ref 0, .int x] (107, I, L, P) Q := by
  refine ⟨rfl, ?_⟩
  have hn := hS.cb.hn
  have hn10 := hS.cb.n10
  show mj_run (mj_ev (d + 11)) k120 Q (k120 0) [some (.ref 0), some (.int x), none, none] [] (107, I, L, P) 1 6
  refine q_5 rfl ?_
  refine q_3 rfl ?_
  refine q_47 (mj_ev_mono _) [_] rfl rfl rfl (by decide) rfl rfl rfl ?_
  refine c_149F hP hn hn10 hx ?_
  exact k.same hS rfl
  skip
theorem c_127F1 {x : Int32} (hP : PS t P) (hS : CS A I) (hx : x < 0 ∨ nI A.w.n ≤ x) (k : kC Q I L P A (.inr 0)) : mj_ev (d + 12) 127 [.ref 0, .int x] (107, I, L, P) Q := by
  refine ⟨rfl, ?_⟩
  have hn := hS.cb.hn
  have hn10 := hS.cb.n10
  show mj_run (mj_ev (d + 11)) k127 Q (k127 0) [some (.ref 0), some (.int x)] [] (107, I, L, P) 1 6
  refine q_5 rfl ?_
  refine q_3 rfl ?_
  refine q_47 (mj_ev_mono _) [_] rfl rfl rfl (by decide) rfl rfl rfl ?_
  refine c_149F hP hn hn10 hx ?_
  exact k.same hS rfl
  skip
theorem c_129F1 {x y z : Int32} (hP : PS t P) (hS : CS A I) (hx : x < 0 ∨ nI A.w.n ≤ x) (k : kC Q I L P A (.inr 0)) : mj_ev (d + 12) 129 [.ref 0, .int x, .int y, .int z] (107, I, L, P) Q := by
  refine ⟨rfl, ?_⟩
  have hn := hS.cb.hn
  have hn10 := hS.cb.n10
  show mj_run (mj_ev (d + 11)) k129 Q (k129 0) [some (.ref 0), some (.int x), some (.int y), some (.int z)] [] (107, I, L, P) 3 18
  refine q_5 rfl ?_
  refine q_3 rfl ?_
  refine q_47 (mj_ev_mono _) [_] rfl rfl rfl (by decide) rfl rfl rfl ?_
  refine c_149F hP hn hn10 hx ?_
  exact k.same hS rfl
  skip
theorem c_131F1 {x : Int32} (hP : PS t P) (hS : CS A I) (hx : x < 0 ∨ nI A.w.n ≤ x) (k : kC Q I L P A (.inr 0)) : mj_ev (d + 12) 131 [.ref 0, .int x] (107, I, L, P) Q := by
  refine ⟨rfl, ?_⟩
  have hn := hS.cb.hn
  have hn10 := hS.cb.n10
  show mj_run (mj_ev (d + 11)) k131 Q (k131 0) [some (.ref 0), some (.int x)] [] (107, I, L, P) 1 6
  refine q_5 rfl ?_
  refine q_3 rfl ?_
  refine q_47 (mj_ev_mono _) [_] rfl rfl rfl (by decide) rfl rfl rfl ?_
  refine c_149F hP hn hn10 hx ?_
  exact k.same hS rfl
  skip
theorem c_133F1 {x y z : Int32} (hP : PS t P) (hS : CS A I) (hx : x < 0 ∨ nI A.w.n ≤ x) (k : kC Q I L P A (.inr 0)) : mj_ev (d + 12) 133 [.ref 0, .int x, .int y, .int z] (107, I, L, P) Q := by
  refine ⟨rfl, ?_⟩
  have hn := hS.cb.hn
  have hn10 := hS.cb.n10
  show mj_run (mj_ev (d + 11)) k133 Q (k133 0) [some (.ref 0), some (.int x), some (.int y), some (.int z)] [] (107, I, L, P) 2 12
  refine q_5 rfl ?_
  refine q_3 rfl ?_
  refine q_47 (mj_ev_mono _) [_] rfl rfl rfl (by decide) rfl rfl rfl ?_
  refine c_149F hP hn hn10 hx ?_
  exact k.same hS rfl
  skip
theorem c_140F1 {x y z : Int32} (hP : PS t P) (hS : CS A I) (hx : x < 0 ∨ nI A.w.n ≤ x) (k : kC Q I L P A (.inr 0)) : mj_ev (d + 12) 140 [.ref 0, .int x, .int y, .int z] (107, I, L, P) Q := by
  refine ⟨rfl, ?_⟩
  have hn := hS.cb.hn
  have hn10 := hS.cb.n10
  show mj_run (mj_ev (d + 11)) k140 Q (k140 0) [some (.ref 0), some (.int x), some (.int y), some (.int z), none, none, none] [] (107, I, L, P) 4 24
  refine q_5 rfl ?_
  refine q_3 rfl ?_
  refine q_47 (mj_ev_mono _) [_] rfl rfl rfl (by decide) rfl rfl rfl ?_
  refine c_149F hP hn hn10 hx ?_
  exact k.same hS rfl
  skip
theorem c_145F1 {x y : Int32} (hP : PS t P) (hS : CS A I) (hx : x < 0 ∨ nI A.w.n ≤ x) (k : kC Q I L P A (.inr 0)) : mj_ev (d + 12) 145 [.ref 0, .int x, .int y] (107, I, L, P) Q := by
  refine ⟨rfl, ?_⟩
  have hn := hS.cb.hn
  have hn10 := hS.cb.n10
  show mj_run (mj_ev (d + 11)) k145 Q (k145 0) [some (.ref 0), some (.int x), some (.int y)] [] (107, I, L, P) 2 12
  refine q_5 rfl ?_
  refine q_3 rfl ?_
  refine q_47 (mj_ev_mono _) [_] rfl rfl rfl (by decide) rfl rfl rfl ?_
  refine c_149F hP hn hn10 hx ?_
  exact k.same hS rfl
  skip
theorem c_107F2 {y : Int32} (hP : PS t P) (hS : CS A I) (ha : a < A.w.n) (hx : y < 0 ∨ nI A.w.n ≤ y) (k : kC Q I L P A (.inr 0)) : mj_ev (d + 12) 107 [.ref 0, .int (nI a), .int y] (107, I, L, P) Q := by
  refine ⟨rfl, ?_⟩
  have hn := hS.cb.hn
  have hn10 := hS.cb.n10
  show mj_run (mj_ev (d + 11)) k107 Q (k107 0) [some (.ref 0), some (.int (nI a)), some (.int y)] [] (107, I, L, P) 2 12
  refine q_5 rfl ?_
  refine q_3 rfl ?_
  refine q_47 (mj_ev_mono _) [_] rfl rfl rfl (by decide) rfl rfl rfl ?_
  refine c_149T hP hn hn10 ha ?_
  refine q_5 rfl ?_
  refine q_3 rfl ?_
  refine q_47 (mj_ev_mono _) [_] rfl rfl rfl (by decide) rfl rfl rfl ?_
  refine c_149F hP hn hn10 hx ?_
  exact k.same hS rfl
  skip
theorem c_108F2 {y : Int32} (hP : PS t P) (hS : CS A I) (ha : a < A.w.n) (hx : y < 0 ∨ nI A.w.n ≤ y) (k : kC Q I L P A (.inr 0)) : mj_ev (d + 12) 108 [.ref 0, .int (nI a), .int y] (107, I, L, P) Q := by
  refine ⟨rfl, ?_⟩
  have hn := hS.cb.hn
  have hn10 := hS.cb.n10
  show mj_run (mj_ev (d + 11)) k108 Q (k108 0) [some (.ref 0), some (.int (nI a)), some (.int y), none] [] (107, I, L, P) 2 12
  refine q_5 rfl ?_
  refine q_3 rfl ?_
  refine q_47 (mj_ev_mono _) [_] rfl rfl rfl (by decide) rfl rfl rfl ?_
  refine c_149T hP hn hn10 ha ?_
  refine q_5 rfl ?_
  refine q_3 rfl ?_
  refine q_47 (mj_ev_mono _) [_] rfl rfl rfl (by decide) rfl rfl rfl ?_
  refine c_149F hP hn hn10 hx ?_
  exact k.same hS rfl
  skip
theorem c_113F2 {y : Int32} (hP : PS t P) (hS : CS A I) (ha : a < A.w.n) (hx : y < 0 ∨ nI A.w.n ≤ y) (k : kC Q I L P A (.inr 0)) : mj_ev (d + 12) 113 [.ref 0, .int (nI a), .int y] (107, I, L, P) Q := by
  refine ⟨rfl, ?_⟩
  have hn := hS.cb.hn
  have hn10 := hS.cb.n10
  show mj_run (mj_ev (d + 11)) k113 Q (k113 0) [some (.ref 0), some (.int (nI a)), some (.int y)] [] (107, I, L, P) 2 12
  refine q_5 rfl ?_
  refine q_3 rfl ?_
  refine q_47 (mj_ev_mono _) [_] rfl rfl rfl (by decide) rfl rfl rfl ?_
  refine c_149T hP hn hn10 ha ?_
  refine q_5 rfl ?_
  refine q_3 rfl ?_
  refine q_47 (mj_ev_mono _) [_] rfl rfl rfl (by decide) rfl rfl rfl ?_
  refine c_149F hP hn hn10 hx ?_
  exact k.same hS rfl
  skip
theorem c_129F2 {y z : Int32} (hP : PS t P) (hS : CS A I) (ha : a < A.w.n) (hx : y < 0 ∨ nI A.w.n ≤ y) (k : kC Q I L P A (.inr 0)) : mj_ev (d + 12) 129 [.ref 0, .int (nI a), .int y, .int z] (107, I, L, P) Q := by
  refine ⟨rfl, ?_⟩
  have hn := hS.cb.hn
  have hn10 := hS.cb.n10
  show mj_run (mj_ev (d + 11)) k129 Q (k129 0) [some (.ref 0), some (.int (nI a)), some (.int y), some (.int z)] [] (107, I, L, P) 3 18
  refine q_5 rfl ?_
  refine q_3 rfl ?_
  refine q_47 (mj_ev_mono _) [_] rfl rfl rfl (by decide) rfl rfl rfl ?_
  refine c_149T hP hn hn10 ha ?_
  refine q_5 rfl ?_
  refine q_3 rfl ?_
  refine q_47 (mj_ev_mono _) [_] rfl rfl rfl (by decide) rfl rfl rfl ?_
  refine c_149F hP hn hn10 hx ?_
  exact k.same hS rfl
  skip
theorem c_140F2 {y z : Int32} (hP : PS t P) (hS : CS A I) (ha : a < A.w.n) (hx : y < 0 ∨ nI A.w.n ≤ y) (k : kC Q I L P A (.inr 0)) : mj_ev (d + 12) 140 [.ref 0, .int (nI a), .int y, .int z] (107, I, L, P) Q := by
  refine ⟨rfl, ?_⟩
  have hn := hS.cb.hn
  have hn10 := hS.cb.n10
  show mj_run (mj_ev (d + 11)) k140 Q (k140 0) [some (.ref 0), some (.int (nI a)), some (.int y), some (.int z), none, none, none] [] (107, I, L, P) 4 24
  refine q_5 rfl ?_
  refine q_3 rfl ?_
  refine q_47 (mj_ev_mono _) [_] rfl rfl rfl (by decide) rfl rfl rfl ?_
  refine c_149T hP hn hn10 ha ?_
  refine q_5 rfl ?_
  refine q_3 rfl ?_
  refine q_47 (mj_ev_mono _) [_] rfl rfl rfl (by decide) rfl rfl rfl ?_
  refine c_149F hP hn hn10 hx ?_
  exact k.same hS rfl
  skip
theorem c_145F2 {y : Int32} (hP : PS t P) (hS : CS A I) (ha : a < A.w.n) (hx : y < 0 ∨ nI A.w.n ≤ y) (k : kC Q I L P A (.inr 0)) : mj_ev (d + 12) 145 [.ref 0, .int (nI a), .int y] (107, I, L, P) Q := by
  refine ⟨rfl, ?_⟩
  have hn := hS.cb.hn
  have hn10 := hS.cb.n10
  show mj_run (mj_ev (d + 11)) k145 Q (k145 0) [some (.ref 0), some (.int (nI a)), some (.int y)] [] (107, I, L, P) 2 12
  refine q_5 rfl ?_
  refine q_3 rfl ?_
  refine q_47 (mj_ev_mono _) [_] rfl rfl rfl (by decide) rfl rfl rfl ?_
  refine c_149T hP hn hn10 ha ?_
  refine q_5 rfl ?_
  refine q_3 rfl ?_
  refine q_47 (mj_ev_mono _) [_] rfl rfl rfl (by decide) rfl rfl rfl ?_
  refine c_149F hP hn hn10 hx ?_
  exact k.same hS rfl
  skip
theorem c_115F2 {y : Int32} (hP : PS t P) (hS : CS A I) (ha : a < A.w.n) (hx : y < nI 0 ∨ nI 30 < y) (k : kC Q I L P A (.inr 1)) : mj_ev (d + 12) 115 [.ref 0, .int (nI a), .int y] (107, I, L, P) Q := by
  refine ⟨rfl, ?_⟩
  have hn := hS.cb.hn
  have hn10 := hS.cb.n10
  show mj_run (mj_ev (d + 11)) k115 Q (k115 0) [some (.ref 0), some (.int (nI a)), some (.int y)] [] (107, I, L, P) 2 12
  refine q_5 rfl ?_
  refine q_3 rfl ?_
  refine q_47 (mj_ev_mono _) [_] rfl rfl rfl (by decide) rfl rfl rfl ?_
  refine c_149T hP hn hn10 ha ?_
  refine q_3 rfl ?_
  refine q_48 (mj_ev_mono _) [_] rfl rfl rfl rfl rfl ?_
  refine c_151F hx ?_
  exact k.same hS rfl
  skip
theorem c_118F {x : Int32} (hP : PS t P) (hS : CS A I) (hx : x < nI 0 ∨ nI 30 < x) (k : kC Q I L P A (.inr 1)) : mj_ev (d + 12) 118 [.ref 0, .int x] (107, I, L, P) Q := by
  refine ⟨rfl, ?_⟩
  have hn := hS.cb.hn
  have hn10 := hS.cb.n10
  show mj_run (mj_ev (d + 11)) k118 Q (k118 0) [some (.ref 0), some (.int x)] [] (107, I, L, P) 1 6
  refine q_3 rfl ?_
  refine q_48 (mj_ev_mono _) [_] rfl rfl rfl rfl rfl ?_
  refine c_151F hx ?_
  exact k.same hS rfl
  skip
theorem c_119F {x : Int32} (hP : PS t P) (hS : CS A I) (hx : x < nI 0 ∨ nI 30 < x) (k : kC Q I L P A (.inr 1)) : mj_ev (d + 12) 119 [.ref 0, .int x] (107, I, L, P) Q := by
  refine ⟨rfl, ?_⟩
  have hn := hS.cb.hn
  have hn10 := hS.cb.n10
  show mj_run (mj_ev (d + 11)) k119 Q (k119 0) [some (.ref 0), some (.int x)] [] (107, I, L, P) 1 6
  refine q_3 rfl ?_
  refine q_48 (mj_ev_mono _) [_] rfl rfl rfl rfl rfl ?_
  refine c_151F hx ?_
  exact k.same hS rfl
  skip
theorem c_128F {x : Int32} (hP : PS t P) (hS : CS A I) (hx : x < nI 0 ∨ nI 1 < x) (k : kC Q I L P A (.inr 0)) : mj_ev (d + 12) 128 [.ref 0, .int x] (107, I, L, P) Q := by
  refine ⟨rfl, ?_⟩
  have hn := hS.cb.hn
  have hn10 := hS.cb.n10
  show mj_run (mj_ev (d + 11)) k128 Q (k128 0) [some (.ref 0), some (.int x)] [] (107, I, L, P) 1 6
  refine q_3 rfl ?_
  refine q_0 ?_
  refine q_48 (mj_ev_mono _) [_, _] rfl rfl rfl rfl rfl ?_
  refine c_150F hx ?_
  exact k.same hS rfl
  skip
theorem c_135F {x : Int32} (hP : PS t P) (hS : CS A I) (hx : x < nI 0 ∨ nI 2 < x) (k : kC Q I L P A (.inr 0)) : mj_ev (d + 12) 135 [.ref 0, .int x] (107, I, L, P) Q := by
  refine ⟨rfl, ?_⟩
  have hn := hS.cb.hn
  have hn10 := hS.cb.n10
  show mj_run (mj_ev (d + 11)) k135 Q (k135 0) [some (.ref 0), some (.int x)] [] (107, I, L, P) 1 6
  refine q_3 rfl ?_
  refine q_0 ?_
  refine q_48 (mj_ev_mono _) [_, _] rfl rfl rfl rfl rfl ?_
  refine c_150F hx ?_
  exact k.same hS rfl
  skip
theorem c_136F {x : Int32} (hP : PS t P) (hS : CS A I) (hx : x < nI 0 ∨ nI 1 < x) (k : kC Q I L P A (.inr 0)) : mj_ev (d + 12) 136 [.ref 0, .int x] (107, I, L, P) Q := by
  refine ⟨rfl, ?_⟩
  have hn := hS.cb.hn
  have hn10 := hS.cb.n10
  show mj_run (mj_ev (d + 11)) k136 Q (k136 0) [some (.ref 0), some (.int x)] [] (107, I, L, P) 1 6
  refine q_3 rfl ?_
  refine q_0 ?_
  refine q_48 (mj_ev_mono _) [_, _] rfl rfl rfl rfl rfl ?_
  refine c_150F hx ?_
  exact k.same hS rfl
  skip
theorem c_137F1 {x y : Int32} (hP : PS t P) (hS : CS A I) (hx : y < nI 0 ∨ nI 2 < y) (k : kC Q I L P A (.inr 0)) : mj_ev (d + 12) 137 [.ref 0, .int x, .int y] (107, I, L, P) Q := by
  refine ⟨rfl, ?_⟩
  have hn := hS.cb.hn
  have hn10 := hS.cb.n10
  show mj_run (mj_ev (d + 11)) k137 Q (k137 0) [some (.ref 0), some (.int x), some (.int y), none, none, none, none] [] (107, I, L, P) 2 12
  refine q_3 rfl ?_
  refine q_0 ?_
  refine q_48 (mj_ev_mono _) [_, _] rfl rfl rfl rfl rfl ?_
  refine c_150F hx ?_
  exact k.same hS rfl
  skip
theorem c_144F1 {x y z : Int32} (hP : PS t P) (hS : CS A I) (hx : z < nI 0 ∨ nI 2 < z) (k : kC Q I L P A (.inr 0)) : mj_ev (d + 12) 144 [.ref 0, .int x, .int y, .int z] (107, I, L, P) Q := by
  refine ⟨rfl, ?_⟩
  have hn := hS.cb.hn
  have hn10 := hS.cb.n10
  show mj_run (mj_ev (d + 11)) k144 Q (k144 0) [some (.ref 0), some (.int x), some (.int y), some (.int z)] [] (107, I, L, P) 2 12
  refine q_3 rfl ?_
  refine q_0 ?_
  refine q_48 (mj_ev_mono _) [_, _] rfl rfl rfl rfl rfl ?_
  refine c_150F hx ?_
  exact k.same hS rfl
  skip
theorem c_129F3 {z : Int32} (hP : PS t P) (hS : CS A I) (ha : a < A.w.n) (hb : b < A.w.n) (hx : z < nI 0 ∨ nI 1 < z) (k : kC Q I L P A (.inr 0)) : mj_ev (d + 12) 129 [.ref 0, .int (nI a), .int (nI b), .int z] (107, I, L, P) Q := by
  refine ⟨rfl, ?_⟩
  have hn := hS.cb.hn
  have hn10 := hS.cb.n10
  show mj_run (mj_ev (d + 11)) k129 Q (k129 0) [some (.ref 0), some (.int (nI a)), some (.int (nI b)), some (.int z)] [] (107, I, L, P) 3 18
  refine q_5 rfl ?_
  refine q_3 rfl ?_
  refine q_47 (mj_ev_mono _) [_] rfl rfl rfl (by decide) rfl rfl rfl ?_
  refine c_149T hP hn hn10 ha ?_
  refine q_5 rfl ?_
  refine q_3 rfl ?_
  refine q_47 (mj_ev_mono _) [_] rfl rfl rfl (by decide) rfl rfl rfl ?_
  refine c_149T hP hn hn10 hb ?_
  refine q_3 rfl ?_
  refine q_0 ?_
  refine q_48 (mj_ev_mono _) [_, _] rfl rfl rfl rfl rfl ?_
  refine c_150F hx ?_
  exact k.same hS rfl
  skip
theorem c_140F3 {z : Int32} (hP : PS t P) (hS : CS A I) (ha : a < A.w.n) (hb : b < A.w.n) (hx : z < nI 0 ∨ nI 1 < z) (k : kC Q I L P A (.inr 0)) : mj_ev (d + 12) 140 [.ref 0, .int (nI a), .int (nI b), .int z] (107, I, L, P) Q := by
  refine ⟨rfl, ?_⟩
  have hn := hS.cb.hn
  have hn10 := hS.cb.n10
  show mj_run (mj_ev (d + 11)) k140 Q (k140 0) [some (.ref 0), some (.int (nI a)), some (.int (nI b)), some (.int z), none, none, none] [] (107, I, L, P) 4 24
  refine q_5 rfl ?_
  refine q_3 rfl ?_
  refine q_47 (mj_ev_mono _) [_] rfl rfl rfl (by decide) rfl rfl rfl ?_
  refine c_149T hP hn hn10 ha ?_
  refine q_5 rfl ?_
  refine q_3 rfl ?_
  refine q_47 (mj_ev_mono _) [_] rfl rfl rfl (by decide) rfl rfl rfl ?_
  refine c_149T hP hn hn10 hb ?_
  refine q_3 rfl ?_
  refine q_0 ?_
  refine q_48 (mj_ev_mono _) [_, _] rfl rfl rfl rfl rfl ?_
  refine c_150F hx ?_
  exact k.same hS rfl
  skip
theorem c_140F4 {b : Nat} (hP : PS t P) (hS : CS A I) (ha : a < A.w.n) (hb : b ≤ 1) (k : kC Q I L P A (.inr 1)) : mj_ev (d + 12) 140 [.ref 0, .int (nI a), .int (nI a), .int (nI b)] (107, I, L, P) Q := by
  refine ⟨rfl, ?_⟩
  have hn := hS.cb.hn
  have hn10 := hS.cb.n10
  show mj_run (mj_ev (d + 11)) k140 Q (k140 0) [some (.ref 0), some (.int (nI a)), some (.int (nI a)), some (.int (nI b)), none, none, none] [] (107, I, L, P) 4 24
  refine q_5 rfl ?_
  refine q_3 rfl ?_
  refine q_47 (mj_ev_mono _) [_] rfl rfl rfl (by decide) rfl rfl rfl ?_
  refine c_149T hP hn hn10 ha ?_
  refine q_5 rfl ?_
  refine q_3 rfl ?_
  refine q_47 (mj_ev_mono _) [_] rfl rfl rfl (by decide) rfl rfl rfl ?_
  refine c_149T hP hn hn10 ha ?_
  refine q_3 rfl ?_
  refine q_0 ?_
  refine q_48 (mj_ev_mono _) [_, _] rfl rfl rfl rfl rfl ?_
  refine c_150T hb (by omega) ?_
  refine q_3 rfl ?_
  refine q_3 rfl ?_
  refine q_neN (by omega) (by omega) (fun hh => absurd hh (by omega)) (fun hh => ?_)
  refine q_30 rfl rfl rfl rfl ?_
  exact k.same hS rfl
theorem c_137F2 {x : Int32} (hP : PS t P) (hS : CS A I) (hb : b ≤ 2) (hx : x < nI 1 ∨ nI 9 < x) (k : kC Q I L P A (.inr 1)) : mj_ev (d + 12) 137 [.ref 0, .int x, .int (nI b)] (107, I, L, P) Q := by
  refine ⟨rfl, ?_⟩
  show mj_run (mj_ev (d + 11)) k137 Q (k137 0) [some (.ref 0), some (.int x), some (.int (nI b)), none, none, none, none] [] (107, I, L, P) 2 12
  by_cases h1 : x < nI 1
  · refine q_3 rfl ?_
    refine q_0 ?_
    refine q_48 (mj_ev_mono _) [_, _] rfl rfl rfl rfl rfl ?_
    refine c_150T hb (by omega) ?_
    refine q_3 rfl ?_
    refine q_0 ?_
    refine q_ltI (fun _ => ?_) (fun z => absurd h1 z)
    refine q_30 rfl rfl rfl rfl ?_
    exact k.same hS rfl
  · refine q_3 rfl ?_
    refine q_0 ?_
    refine q_48 (mj_ev_mono _) [_, _] rfl rfl rfl rfl rfl ?_
    refine c_150T hb (by omega) ?_
    refine q_3 rfl ?_
    refine q_0 ?_
    refine q_ltI (fun z => absurd z h1) (fun _ => ?_)
    refine q_3 rfl ?_
    refine q_0 ?_
    refine q_leI (fun z => absurd (hx.resolve_left h1) (Int32.not_lt.mpr z)) (fun _ => ?_)
    refine q_30 rfl rfl rfl rfl ?_
    exact k.same hS rfl
theorem c_144F2 {x y : Int32} (hP : PS t P) (hS : CS A I) (hb : b ≤ 2) (hx : y < nI 0 ∨ nI 60 < y) (k : kC Q I L P A (.inr 1)) : mj_ev (d + 12) 144 [.ref 0, .int x, .int y, .int (nI b)] (107, I, L, P) Q := by
  refine ⟨rfl, ?_⟩
  show mj_run (mj_ev (d + 11)) k144 Q (k144 0) [some (.ref 0), some (.int x), some (.int y), some (.int (nI b))] [] (107, I, L, P) 2 12
  by_cases h1 : y < nI 0
  · refine q_3 rfl ?_
    refine q_0 ?_
    refine q_48 (mj_ev_mono _) [_, _] rfl rfl rfl rfl rfl ?_
    refine c_150T hb (by omega) ?_
    refine q_3 rfl ?_
    refine q_ltI0 (fun _ => ?_) (fun z => absurd h1 z)
    refine q_30 rfl rfl rfl rfl ?_
    exact k.same hS rfl
  · refine q_3 rfl ?_
    refine q_0 ?_
    refine q_48 (mj_ev_mono _) [_, _] rfl rfl rfl rfl rfl ?_
    refine c_150T hb (by omega) ?_
    refine q_3 rfl ?_
    refine q_ltI0 (fun z => absurd z h1) (fun _ => ?_)
    refine q_3 rfl ?_
    refine q_0 ?_
    refine q_leI (fun z => absurd (hx.resolve_left h1) (Int32.not_lt.mpr z)) (fun _ => ?_)
    refine q_30 rfl rfl rfl rfl ?_
    exact k.same hS rfl
theorem c_133F3 {y z : Int32} (hP : PS t P) (hS : CS A I) (ha : a < A.w.n) (hz : ¬ z = -(nI 1)) (hx : z < 0 ∨ nI A.w.n ≤ z) (k : kC Q I L P A (.inr 0)) : mj_ev (d + 12) 133 [.ref 0, .int (nI a), .int y, .int z] (107, I, L, P) Q := by
  refine ⟨rfl, ?_⟩
  have hn := hS.cb.hn
  have hn10 := hS.cb.n10
  show mj_run (mj_ev (d + 11)) k133 Q (k133 0) [some (.ref 0), some (.int (nI a)), some (.int y), some (.int z)] [] (107, I, L, P) 2 12
  refine q_5 rfl ?_
  refine q_3 rfl ?_
  refine q_47 (mj_ev_mono _) [_] rfl rfl rfl (by decide) rfl rfl rfl ?_
  refine c_149T hP hn hn10 ha ?_
  refine q_3 rfl ?_
  refine q_1 ?_
  refine q_eqI (fun e => absurd e hz) (fun _ => ?_)
  refine q_5 rfl ?_
  refine q_3 rfl ?_
  refine q_47 (mj_ev_mono _) [_] rfl rfl rfl (by decide) rfl rfl rfl ?_
  refine c_149F hP hn hn10 hx ?_
  exact k.same hS rfl
  skip
end C
