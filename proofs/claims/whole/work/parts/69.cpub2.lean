/-! the class: most, best, colour -/
section C
variable {I : mj_I} {L : mj_L} {P : mj_P} {Q : mj_Q} {d n r t a b : Nat} {A : AS} {w : WT} {c h : Nat → Nat} {m : MM} {al : Nat → Nat → Int32}
theorem c_124N (hP : PS t P) (hS : CS A I) (k : kC Q I L P A (.inl (some (.int (nI (hT (fun _ _ => 1) (okA (alk A.w A.c A.h)) A.w.n (frs A.m))))))) : mj_ev (d + 12) 124 [.ref 0, .int (-(nI 1))] (107, I, L, P) Q := by
  refine ⟨rfl, ?_⟩
  have hB := hS.cb
  obtain ⟨k0, hk0, h48, hG⟩ := hS.2.1
  show mj_run (mj_ev (d + 11)) k124 Q (k124 0) [some (.ref 0), some (.int (-(nI 1))), none, none] [] (107, I, L, P) 1 6
  refine q_3 rfl ?_
  refine q_1 ?_
  refine q_eqI (fun _ => ?_) (fun z => absurd rfl z)
  refine q_5 rfl ?_
  refine q_33 rfl (by decide) (hP _ _ _ rfl) ?_
  refine q_0 ?_
  refine q_47 (mj_ev_mono _) [_] rfl rfl rfl (by decide) rfl rfl rfl ?_
  refine c_32 hP hB.ct hB.cw (by omega) hk0 h48 hG (fun I1 k1 g1 g2 g3 g4 e1 j48 hG1 => ?_)
  have hS1 := hS.r1 g1 g2 h48 hk0 e1 j48 hG1
  refine q_5 rfl ?_
  refine q_47 (mj_ev_mono _) [] rfl rfl rfl (by decide) rfl rfl rfl ?_
  refine c_152 hP hS1.cb.ct hS1.cb.cw ?_
  refine q_6 rfl rfl rfl ?_
  refine q_5 rfl ?_
  refine q_33 rfl (by decide) (hP _ _ _ rfl) ?_
  refine q_5 rfl ?_
  refine q_33 rfl (by decide) (hP _ _ _ rfl) ?_
  refine q_33 rfl (by decide) (hP _ _ _ rfl) ?_
  refine q_0 ?_
  refine q_3 rfl ?_
  refine q_47 (mj_ev_mono _) [_, _, _] rfl rfl rfl (by decide) rfl rfl rfl ?_
  refine c_92 (x := 0) (lg := 800) (al := alk A.w A.c A.h) hP rfl (by decide) rfl (by omega) hS1.cb.hn hB.n10 (by omega) (g_given hG1 (g3 (by omega))) (fun L1 eL hT1 => ?_)
  refine q_16 ?_
  rw [lN_i]
  refine q_6 rfl rfl rfl ?_
  refine q_3 rfl ?_
  refine q_1 ?_
  refine q_neI (fun z => absurd rfl z) (fun _ => ?_)
  refine q_3 rfl ?_
  refine q_26 ?_
  exact k.fl e1 eL hS1 rfl rfl
theorem c_124 (hP : PS t P) (hS : CS A I) (ha : a < A.w.n) (k : kC Q I L P A (.inl (some (.int (mI (fr1 (okA (alk A.w A.c A.h)) A.w.n (frs A.m) a)))))) : mj_ev (d + 12) 124 [.ref 0, .int (nI a)] (107, I, L, P) Q := by
  refine ⟨rfl, ?_⟩
  have hB := hS.cb
  have hn10 := hB.n10
  obtain ⟨k0, hk0, h48, hG⟩ := hS.2.1
  show mj_run (mj_ev (d + 11)) k124 Q (k124 0) [some (.ref 0), some (.int (nI a)), none, none] [] (107, I, L, P) 1 6
  refine q_3 rfl ?_
  refine q_1 ?_
  refine q_eqI (fun z => absurd z (mI_ne (by omega))) (fun _ => ?_)
  refine q_5 rfl ?_
  refine q_3 rfl ?_
  refine q_47 (mj_ev_mono _) [_] rfl rfl rfl (by decide) rfl rfl rfl ?_
  refine c_149T hP hB.hn hn10 ha ?_
  refine q_5 rfl ?_
  refine q_33 rfl (by decide) (hP _ _ _ rfl) ?_
  refine q_0 ?_
  refine q_47 (mj_ev_mono _) [_] rfl rfl rfl (by decide) rfl rfl rfl ?_
  refine c_32 hP hB.ct hB.cw (by omega) hk0 h48 hG (fun I1 k1 g1 g2 g3 g4 e1 j48 hG1 => ?_)
  have hS1 := hS.r1 g1 g2 h48 hk0 e1 j48 hG1
  refine q_5 rfl ?_
  refine q_47 (mj_ev_mono _) [] rfl rfl rfl (by decide) rfl rfl rfl ?_
  refine c_152 hP hS1.cb.ct hS1.cb.cw ?_
  refine q_6 rfl rfl rfl ?_
  refine q_5 rfl ?_
  refine q_33 rfl (by decide) (hP _ _ _ rfl) ?_
  refine q_5 rfl ?_
  refine q_33 rfl (by decide) (hP _ _ _ rfl) ?_
  refine q_33 rfl (by decide) (hP _ _ _ rfl) ?_
  refine q_0 ?_
  refine q_3 rfl ?_
  refine q_47 (mj_ev_mono _) [_, _, _] rfl rfl rfl (by decide) rfl rfl rfl ?_
  refine c_92 (x := 0) (lg := 800) (al := alk A.w A.c A.h) hP rfl (by decide) rfl (by omega) hS1.cb.hn hB.n10 (by omega) (g_given hG1 (g3 (by omega))) (fun L1 eL hT1 => ?_)
  refine q_16 ?_
  refine q_6 rfl rfl rfl ?_
  refine q_3 rfl ?_
  refine q_1 ?_
  refine q_neI (fun _ => ?_) (fun z => absurd (mI_ne (by omega)) z)
  refine q_5 rfl ?_
  refine q_33 rfl (by decide) (hP _ _ _ rfl) ?_
  refine q_5 rfl ?_
  refine q_33 rfl (by decide) (hP _ _ _ rfl) ?_
  refine q_33 rfl (by decide) (hP _ _ _ rfl) ?_
  refine q_3 rfl ?_
  refine q_47 (mj_ev_mono _) [_, _] rfl rfl rfl (by decide) rfl rfl rfl ?_
  refine c_93 (lg := 800) (al := alk A.w A.c A.h) hP rfl (by decide) (by decide) rfl (by omega) hS1.cb.hn hB.n10 (g_given hG1 (g3 (by omega))) hT1 (fun I2 e2 z2 => ?_)
  have v1 := z2 a ha
  refine q_5 rfl ?_
  refine q_33 rfl (by decide) (hP _ _ _ rfl) ?_
  refine q_33 rfl (by decide) (hP _ _ _ rfl) ?_
  refine q_3 rfl ?_
  first | refine q_38E _ rfl (by decide) rfl (by show _ < 10; omega) (by decide) (v1) ?_ | refine q_38 _ rfl (by decide) rfl (by show _ < 10; omega) (by decide) ?_
  refine q_26 ?_
  exact k.fl (cs := [13, 15, 49, 61]) (fs := [(48, 4)]) ((e1.to rfl rfl).tr (e2.to rfl rfl)) eL (hS1.fx e2 rfl) rfl rfl
theorem c_125 (hP : PS t P) (hS : CS A I) (k : kC Q I L P A (.inl (some (.long (lN (hT (wtA (alk A.w A.c A.h)) (okA (alk A.w A.c A.h)) A.w.n (frs A.m))))))) : mj_ev (d + 12) 125 [.ref 0] (107, I, L, P) Q := by
  refine ⟨rfl, ?_⟩
  have hB := hS.cb
  obtain ⟨k0, hk0, h48, hG⟩ := hS.2.1
  show mj_run (mj_ev (d + 11)) k125 Q (k125 0) [some (.ref 0)] [] (107, I, L, P) 0 0
  refine q_5 rfl ?_
  refine q_33 rfl (by decide) (hP _ _ _ rfl) ?_
  refine q_0 ?_
  refine q_47 (mj_ev_mono _) [_] rfl rfl rfl (by decide) rfl rfl rfl ?_
  refine c_32 hP hB.ct hB.cw (by omega) hk0 h48 hG (fun I1 k1 g1 g2 g3 g4 e1 j48 hG1 => ?_)
  have hS1 := hS.r1 g1 g2 h48 hk0 e1 j48 hG1
  refine q_5 rfl ?_
  refine q_33 rfl (by decide) (hP _ _ _ rfl) ?_
  refine q_5 rfl ?_
  refine q_33 rfl (by decide) (hP _ _ _ rfl) ?_
  refine q_33 rfl (by decide) (hP _ _ _ rfl) ?_
  refine q_0 ?_
  refine q_5 rfl ?_
  refine q_47 (mj_ev_mono _) [] rfl rfl rfl (by decide) rfl rfl rfl ?_
  refine c_152 hP hS1.cb.ct hS1.cb.cw ?_
  refine q_47 (mj_ev_mono _) [_, _, _] rfl rfl rfl (by decide) rfl rfl rfl ?_
  refine c_92 (x := 1) (lg := 800) (al := alk A.w A.c A.h) hP rfl (by decide) rfl (by omega) hS1.cb.hn hB.n10 (by omega) (g_given hG1 (g3 (by omega))) (fun L1 eL hT1 => ?_)
  refine q_28 ?_
  exact k.fl e1 eL hS1 rfl rfl
theorem c_128 {x : Nat} (hP : PS t P) (hS : CS A I) (hx : x ≤ 1) (k : kC Q I L P A (.inl (some (.int (nI (sCol A x)))))) : mj_ev (d + 12) 128 [.ref 0, .int (nI x)] (107, I, L, P) Q := by
  refine ⟨rfl, ?_⟩
  have hB := hS.cb
  show mj_run (mj_ev (d + 11)) k128 Q (k128 0) [some (.ref 0), some (.int (nI x))] [] (107, I, L, P) 1 6
  obtain rfl | rfl : x = 0 ∨ x = 1 := by omega
  · refine q_3 rfl ?_
    refine q_0 ?_
    refine q_48 (mj_ev_mono _) [_, _] rfl rfl rfl rfl rfl ?_
    refine c_150T hx (by omega) ?_
    refine q_3 rfl ?_
    first | refine q_neN0 (by omega) (fun hh => absurd hh (by omega)) (fun hh => ?_) | refine q_neI0 (fun hh => absurd hh (by omega)) (fun hh => ?_)
    refine q_0 ?_
    refine q_26 ?_
    exact k.same hS rfl
  · refine q_3 rfl ?_
    refine q_0 ?_
    refine q_48 (mj_ev_mono _) [_, _] rfl rfl rfl rfl rfl ?_
    refine c_150T hx (by omega) ?_
    refine q_3 rfl ?_
    first | refine q_neN0 (by omega) (fun hh => ?_) (fun hh => absurd hh (by omega)) | refine q_neI0 (fun hh => ?_) (fun hh => absurd (by omega) hh)
    refine q_5 rfl ?_
    refine q_33 rfl (by decide) (hP _ _ _ rfl) ?_
    refine q_47 (mj_ev_mono _) [] rfl rfl rfl (by decide) rfl rfl rfl ?_
    refine c_35 hP hB.ct hB.cw (fun I1 e1 z1 => ?_)
    have hS1 := hS.fx e1 rfl
    refine q_5 rfl ?_
    refine q_33 rfl (by decide) (hP _ _ _ rfl) ?_
    refine q_5 rfl ?_
    refine q_33 rfl (by decide) (hP _ _ _ rfl) ?_
    refine q_33 rfl (by decide) (hP _ _ _ rfl) ?_
    refine q_0 ?_
    refine q_5 rfl ?_
    refine q_47 (mj_ev_mono _) [] rfl rfl rfl (by decide) rfl rfl rfl ?_
    refine c_152 hP hS1.cb.ct hS1.cb.cw ?_
    refine q_47 (mj_ev_mono _) [_, _, _] rfl rfl rfl (by decide) rfl rfl rfl ?_
    refine c_92 (x := 0) (lg := 100) (al := alk A.w (fun _ => 0) A.h) hP rfl (by decide) rfl (by omega) hS1.cb.hn hB.n10 (by omega) z1 (fun L1 eL hT1 => ?_)
    refine q_16 ?_
    rw [lN_i]
    refine q_26 ?_
    exact k.fl e1 eL hS1 rfl rfl
end C
