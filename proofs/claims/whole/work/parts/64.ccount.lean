/-! the class's calls that tell: count, person, lasts -/
theorem sumN_cx {n : Nat} {h : Nat → Nat} : ∀ k, n ≤ k → sumN (cx n h) k = sumN h n
  | 0, hk => by
    obtain rfl : n = 0 := by omega
    rfl
  | k + 1, hk => by
    rcases Nat.lt_or_ge k n with hl | hl
    · obtain rfl : n = k + 1 := by omega
      exact sumN_congr (fun i hi => cx_lt hi)
    · show sumN (cx n h) k + cx n h k = _
      rw [sumN_cx k hl, cx_ge hl]
      rfl
section C
variable {I : mj_I} {L : mj_L} {P : mj_P} {Q : mj_Q} {d n r t a b : Nat} {A : AS} {w : WT} {c h : Nat → Nat} {m : MM}
theorem c_68 (hP : PS t P) (hR : CW n 32 33 34 c h m I) (k : Q (.inl (some (.int (nI (sumN h n))))) (107, I, L, P)) : mj_ev (d + 1) 68 [.ref 31] (107, I, L, P) Q := by
  refine ⟨rfl, ?_⟩
  have L4 : ∀ i, i ≤ 10 → mj_run (mj_ev d) k68 Q (k68 4) [some (.ref 31), some (.int (nI (sumN (cx n h) i))), some (.int (nI i))] [] (107, I, L, P) 0 0 := by
    refine loop_up ?_ (fun i hi ih => ?_)
    · refine q_3 rfl ?_
      refine q_0 ?_
      refine q_geN (by omega) (by omega) (fun hh => ?_) (fun hh => absurd hh (by omega))
      refine q_3 rfl ?_
      refine q_26 ?_
      rw [sumN_cx 10 hR.n10]
      exact k
    · have r1 : I 33 i = nI (cx n h i) := hR.2.2.1 i hi
      refine q_3 rfl ?_
      refine q_0 ?_
      refine q_geN (by omega) (by omega) (fun hh => absurd hh (by omega)) (fun hh => ?_)
      refine q_3 rfl ?_
      refine q_5 rfl ?_
      refine q_33 rfl (by decide) (hP _ _ _ rfl) ?_
      refine q_3 rfl ?_
      first | refine q_38E _ rfl (by decide) rfl (by show _ < 10; omega) (by decide) (r1) ?_ | refine q_38 _ rfl (by decide) rfl (by show _ < 10; omega) (by decide) ?_
      first | refine q_add ?_ | refine q_11 rfl ?_
      refine q_6 rfl rfl rfl ?_
      first | refine q_inc rfl rfl rfl ?_ | refine q_9 rfl rfl rfl ?_
      refine q_23 ?_
      exact ih
  show mj_run (mj_ev d) k68 Q (k68 0) [some (.ref 31), none, none] [] (107, I, L, P) 0 0
  refine q_0 ?_
  refine q_6 rfl rfl rfl ?_
  refine q_0 ?_
  refine q_6 rfl rfl rfl ?_
  exact L4 0 (by omega)
theorem sw_no {x : Int32} {dd : Nat} : ∀ {cs : List (Int32 × Nat)}, (∀ q ∈ cs, x ≠ q.1) → mj_sw cs dd x = dd
  | [], _ => rfl
  | q :: r, hq => by
    show (if x = q.1 then q.2 else mj_sw r dd x) = dd
    rw [if_neg (hq q (List.mem_cons_self))]
    exact sw_no (fun y hy => hq y (List.mem_cons_of_mem _ hy))
theorem c_105 (hP : PS t P) (hS : CS A I) (ha : a ≤ 10) (k : kC Q I L P A (.inl (some (.int (sCount A a))))) : mj_ev (d + 12) 105 [.ref 0, .int (nI a)] (107, I, L, P) Q := by
  refine ⟨rfl, ?_⟩
  have hn := hS.cb.hn
  have hn10 := hS.cb.n10
  have hy := hS.cb.hy
  have i1 : I 30 1 = nI A.ac.length := hS.cb.2.1.2.2.2.1
  have i2 : I 30 2 = nI A.se.length := hS.cb.2.1.2.2.2.2.2.1
  have i3 : I 0 1 = nI A.td := hS.cb.2.2.2.1
  have r0 := hS.cb.rf (k := 0) (by omega)
  have r1 := hS.cb.rf (k := 1) (by omega)
  have r2 := hS.cb.rf (k := 2) (by omega)
  have e2 : (2 ^ A.w.n - 1) ^^^ ((2 ^ A.w.n - 1) &&& maskF (frs A.m) A.w.n) = maskF (bm A.m) A.w.n := by
    rw [mask_all, mask_diff]
    exact mask_congr (fun i _ => by unfold frs; simp)
  have pos : 1 ≤ 2 ^ A.w.n := Nat.one_le_two_pow
  show mj_run (mj_ev (d + 11)) k105 Q (k105 0) [some (.ref 0), some (.int (nI a))] [] (107, I, L, P) 1 6
  obtain rfl | rfl | rfl | rfl | rfl | rfl | rfl | rfl | rfl | rfl | rfl : a = 0 ∨ a = 1 ∨ a = 2 ∨ a = 3 ∨ a = 4 ∨ a = 5 ∨ a = 6 ∨ a = 7 ∨ a = 8 ∨ a = 9 ∨ a = 10 := by omega
  · refine q_3 rfl ?_
    refine q_24E (t := 60) (rfl) ?_
    refine q_5 rfl ?_
    refine q_33 rfl (by decide) (hP _ _ _ rfl) ?_
    first | refine q_31E rfl (by decide) hn ?_ | refine q_31 rfl (by decide) ?_
    refine q_26 ?_
    exact k.same hS rfl
  · refine q_3 rfl ?_
    refine q_24E (t := 68) (rfl) ?_
    refine q_5 rfl ?_
    refine q_33 rfl (by decide) (hP _ _ _ rfl) ?_
    first | refine q_31E rfl (by decide) hy ?_ | refine q_31 rfl (by decide) ?_
    refine q_26 ?_
    exact k.same hS rfl
  · refine q_3 rfl ?_
    refine q_24E (t := 76) (rfl) ?_
    refine q_0 ?_
    refine q_5 rfl ?_
    refine q_33 rfl (by decide) (hP _ _ _ rfl) ?_
    first | refine q_31E rfl (by decide) hn ?_ | refine q_31 rfl (by decide) ?_
    first | refine q_shl1 (by omega) ?_ | refine q_11 rfl ?_
    refine q_0 ?_
    first | refine q_sub (by omega) ?_ | refine q_11 rfl ?_
    refine q_5 rfl ?_
    refine q_47 (mj_ev_mono _) [] rfl rfl rfl (by decide) rfl rfl rfl ?_
    refine c_152 hP hS.cb.ct hS.cb.cw ?_
    refine q_andnot ?_
    refine q_26 ?_
    rw [e2]
    exact k.same hS rfl
  · refine q_3 rfl ?_
    refine q_24E (t := 95) (rfl) ?_
    refine q_5 rfl ?_
    refine q_33 rfl (by decide) (hP _ _ _ rfl) ?_
    refine q_47 (mj_ev_mono _) [] rfl rfl rfl (by decide) rfl rfl rfl ?_
    refine c_68 hP hS.cb.cw ?_
    refine q_26 ?_
    exact k.same hS rfl
  · refine q_3 rfl ?_
    refine q_24E (t := 103) (rfl) ?_
    refine q_5 rfl ?_
    refine q_47 (mj_ev_mono _) [] rfl rfl rfl (by decide) rfl rfl rfl ?_
    refine c_154 hP hS (fun I1 e1 hS1 hT1 hG1 => ?_)
    refine q_47 (mj_ev_mono _) [] rfl rfl rfl (by decide) rfl rfl rfl ?_
    refine c_74 hP hT1 hS1.cb.hn hn10 ?_
    refine q_26 ?_
    exact k.fm e1 hS1 rfl rfl
  · refine q_3 rfl ?_
    refine q_24E (t := 111) (rfl) ?_
    refine q_5 rfl ?_
    refine q_33 rfl (by decide) (hP _ _ _ rfl) ?_
    first | refine q_31E rfl (by decide) i1 ?_ | refine q_31 rfl (by decide) ?_
    refine q_26 ?_
    exact k.same hS rfl
  · refine q_3 rfl ?_
    refine q_24E (t := 119) (rfl) ?_
    refine q_5 rfl ?_
    refine q_33 rfl (by decide) (hP _ _ _ rfl) ?_
    first | refine q_31E rfl (by decide) i2 ?_ | refine q_31 rfl (by decide) ?_
    refine q_26 ?_
    exact k.same hS rfl
  · refine q_3 rfl ?_
    refine q_24E (t := 127) (rfl) ?_
    refine q_5 rfl ?_
    first | refine q_31E rfl (by decide) i3 ?_ | refine q_31 rfl (by decide) ?_
    refine q_26 ?_
    exact k.same hS rfl
  · refine q_3 rfl ?_
    refine q_24E (t := 132) (rfl) ?_
    refine q_5 rfl ?_
    refine q_33 rfl (by decide) (hP _ _ _ rfl) ?_
    refine q_0 ?_
    first | refine q_38E _ rfl (by decide) rfl (by show _ < 3; omega) (by decide) (r0) ?_ | refine q_38E _ rfl (by decide) rfl (by show _ < 3; omega) (by decide) (r1) ?_ | refine q_38E _ rfl (by decide) rfl (by show _ < 3; omega) (by decide) (r2) ?_ | refine q_38 _ rfl (by decide) rfl (by show _ < 3; omega) (by decide) ?_
    refine q_26 ?_
    exact k.same hS rfl
  · refine q_3 rfl ?_
    refine q_24E (t := 139) (rfl) ?_
    refine q_5 rfl ?_
    refine q_33 rfl (by decide) (hP _ _ _ rfl) ?_
    refine q_0 ?_
    first | refine q_38E _ rfl (by decide) rfl (by show _ < 3; omega) (by decide) (r0) ?_ | refine q_38E _ rfl (by decide) rfl (by show _ < 3; omega) (by decide) (r1) ?_ | refine q_38E _ rfl (by decide) rfl (by show _ < 3; omega) (by decide) (r2) ?_ | refine q_38 _ rfl (by decide) rfl (by show _ < 3; omega) (by decide) ?_
    refine q_26 ?_
    exact k.same hS rfl
  · refine q_3 rfl ?_
    refine q_24E (t := 146) (rfl) ?_
    refine q_5 rfl ?_
    refine q_33 rfl (by decide) (hP _ _ _ rfl) ?_
    refine q_0 ?_
    first | refine q_38E _ rfl (by decide) rfl (by show _ < 3; omega) (by decide) (r0) ?_ | refine q_38E _ rfl (by decide) rfl (by show _ < 3; omega) (by decide) (r1) ?_ | refine q_38E _ rfl (by decide) rfl (by show _ < 3; omega) (by decide) (r2) ?_ | refine q_38 _ rfl (by decide) rfl (by show _ < 3; omega) (by decide) ?_
    refine q_26 ?_
    exact k.same hS rfl
theorem c_105F {x : Int32} (hS : CS A I) (hx : x < nI 0 ∨ nI 10 < x) (k : kC Q I L P A (.inr 0)) : mj_ev (d + 12) 105 [.ref 0, .int x] (107, I, L, P) Q := by
  refine ⟨rfl, ?_⟩
  have e : mj_sw (mj_swt 2) 153 x = 153 := sw_no (fun q hq e => by
    subst e
    have hq2 : q ∈ mj_sw2 := hq
    unfold mj_sw2 at hq2
    simp only [List.mem_cons, List.not_mem_nil, or_false] at hq2
    rcases hq2 with rfl | rfl | rfl | rfl | rfl | rfl | rfl | rfl | rfl | rfl | rfl <;> exact absurd hx (by decide))
  show mj_run (mj_ev (d + 11)) k105 Q (k105 0) [some (.ref 0), some (.int x)] [] (107, I, L, P) 1 6
  refine q_3 rfl ?_
  refine q_24E (t := 153) (e) ?_
  refine q_30 rfl rfl rfl rfl ?_
  exact k.same hS rfl
theorem c_106 (hP : PS t P) (hS : CS A I) (ha : a < A.w.n) (hb : b ≤ 8) (k : kC Q I L P A (.inl (some (.int (sPerson A a b))))) : mj_ev (d + 12) 106 [.ref 0, .int (nI a), .int (nI b)] (107, I, L, P) Q := by
  refine ⟨rfl, ?_⟩
  have hn := hS.cb.hn
  have hn10 := hS.cb.n10
  obtain ⟨q1, q2, q3, q4⟩ := hS.cb.ct.2.2.1 a ha
  have r1 := hS.cb.cw.col ha
  have r2 := hS.cb.cw.hol ha
  have r3 := hS.cb.cw.mat ha
  show mj_run (mj_ev (d + 11)) k106 Q (k106 0) [some (.ref 0), some (.int (nI a)), some (.int (nI b))] [] (107, I, L, P) 2 12
  obtain rfl | rfl | rfl | rfl | rfl | rfl | rfl | rfl | rfl : b = 0 ∨ b = 1 ∨ b = 2 ∨ b = 3 ∨ b = 4 ∨ b = 5 ∨ b = 6 ∨ b = 7 ∨ b = 8 := by omega
  · refine q_5 rfl ?_
    refine q_3 rfl ?_
    refine q_47 (mj_ev_mono _) [_] rfl rfl rfl (by decide) rfl rfl rfl ?_
    refine c_149T hP hn hn10 ha ?_
    refine q_3 rfl ?_
    refine q_24E (t := 56) (rfl) ?_
    refine q_5 rfl ?_
    refine q_33 rfl (by decide) (hP _ _ _ rfl) ?_
    refine q_33 rfl (by decide) (hP _ _ _ rfl) ?_
    refine q_3 rfl ?_
    first | refine q_38E _ rfl (by decide) rfl (by show _ < 10; omega) (by decide) (r1) ?_ | refine q_38 _ rfl (by decide) rfl (by show _ < 10; omega) (by decide) ?_
    refine q_26 ?_
    exact k.same hS rfl
  · refine q_5 rfl ?_
    refine q_3 rfl ?_
    refine q_47 (mj_ev_mono _) [_] rfl rfl rfl (by decide) rfl rfl rfl ?_
    refine c_149T hP hn hn10 ha ?_
    refine q_3 rfl ?_
    refine q_24E (t := 66) (rfl) ?_
    refine q_5 rfl ?_
    refine q_33 rfl (by decide) (hP _ _ _ rfl) ?_
    refine q_33 rfl (by decide) (hP _ _ _ rfl) ?_
    refine q_3 rfl ?_
    first | refine q_38E _ rfl (by decide) rfl (by show _ < 11; omega) (by decide) (q1) ?_ | refine q_38 _ rfl (by decide) rfl (by show _ < 11; omega) (by decide) ?_
    refine q_26 ?_
    exact k.same hS rfl
  · refine q_5 rfl ?_
    refine q_3 rfl ?_
    refine q_47 (mj_ev_mono _) [_] rfl rfl rfl (by decide) rfl rfl rfl ?_
    refine c_149T hP hn hn10 ha ?_
    refine q_3 rfl ?_
    refine q_24E (t := 76) (rfl) ?_
    refine q_5 rfl ?_
    refine q_33 rfl (by decide) (hP _ _ _ rfl) ?_
    refine q_33 rfl (by decide) (hP _ _ _ rfl) ?_
    refine q_3 rfl ?_
    first | refine q_38E _ rfl (by decide) rfl (by show _ < 11; omega) (by decide) (q2) ?_ | refine q_38 _ rfl (by decide) rfl (by show _ < 11; omega) (by decide) ?_
    refine q_26 ?_
    exact k.same hS rfl
  · refine q_5 rfl ?_
    refine q_3 rfl ?_
    refine q_47 (mj_ev_mono _) [_] rfl rfl rfl (by decide) rfl rfl rfl ?_
    refine c_149T hP hn hn10 ha ?_
    refine q_3 rfl ?_
    refine q_24E (t := 86) (rfl) ?_
    refine q_5 rfl ?_
    refine q_33 rfl (by decide) (hP _ _ _ rfl) ?_
    refine q_33 rfl (by decide) (hP _ _ _ rfl) ?_
    refine q_3 rfl ?_
    first | refine q_38E _ rfl (by decide) rfl (by show _ < 11; omega) (by decide) (q3) ?_ | refine q_38 _ rfl (by decide) rfl (by show _ < 11; omega) (by decide) ?_
    refine q_26 ?_
    exact k.same hS rfl
  · refine q_5 rfl ?_
    refine q_3 rfl ?_
    refine q_47 (mj_ev_mono _) [_] rfl rfl rfl (by decide) rfl rfl rfl ?_
    refine c_149T hP hn hn10 ha ?_
    refine q_3 rfl ?_
    refine q_24E (t := 96) (rfl) ?_
    refine q_5 rfl ?_
    refine q_33 rfl (by decide) (hP _ _ _ rfl) ?_
    refine q_33 rfl (by decide) (hP _ _ _ rfl) ?_
    refine q_3 rfl ?_
    first | refine q_38E _ rfl (by decide) rfl (by show _ < 10; omega) (by decide) (r2) ?_ | refine q_38 _ rfl (by decide) rfl (by show _ < 10; omega) (by decide) ?_
    refine q_26 ?_
    exact k.same hS rfl
  · refine q_5 rfl ?_
    refine q_3 rfl ?_
    refine q_47 (mj_ev_mono _) [_] rfl rfl rfl (by decide) rfl rfl rfl ?_
    refine c_149T hP hn hn10 ha ?_
    refine q_3 rfl ?_
    refine q_24E (t := 106) (rfl) ?_
    refine q_5 rfl ?_
    refine q_33 rfl (by decide) (hP _ _ _ rfl) ?_
    refine q_33 rfl (by decide) (hP _ _ _ rfl) ?_
    refine q_3 rfl ?_
    first | refine q_38E _ rfl (by decide) rfl (by show _ < 11; omega) (by decide) (q4) ?_ | refine q_38 _ rfl (by decide) rfl (by show _ < 11; omega) (by decide) ?_
    refine q_26 ?_
    exact k.same hS rfl
  · refine q_5 rfl ?_
    refine q_3 rfl ?_
    refine q_47 (mj_ev_mono _) [_] rfl rfl rfl (by decide) rfl rfl rfl ?_
    refine c_149T hP hn hn10 ha ?_
    refine q_3 rfl ?_
    refine q_24E (t := 116) (rfl) ?_
    refine q_5 rfl ?_
    refine q_33 rfl (by decide) (hP _ _ _ rfl) ?_
    refine q_33 rfl (by decide) (hP _ _ _ rfl) ?_
    refine q_3 rfl ?_
    first | refine q_38E _ rfl (by decide) rfl (by show _ < 10; omega) (by decide) (r3) ?_ | refine q_38 _ rfl (by decide) rfl (by show _ < 10; omega) (by decide) ?_
    refine q_26 ?_
    exact k.same hS rfl
  · refine q_5 rfl ?_
    refine q_3 rfl ?_
    refine q_47 (mj_ev_mono _) [_] rfl rfl rfl (by decide) rfl rfl rfl ?_
    refine c_149T hP hn hn10 ha ?_
    refine q_3 rfl ?_
    refine q_24E (t := 126) (rfl) ?_
    refine q_5 rfl ?_
    refine q_47 (mj_ev_mono _) [] rfl rfl rfl (by decide) rfl rfl rfl ?_
    refine c_154 hP hS (fun I1 e1 hS1 hT1 hG1 => ?_)
    refine q_3 rfl ?_
    refine q_47 (mj_ev_mono _) [_] rfl rfl rfl (by decide) rfl rfl rfl ?_
    refine c_71 hP hT1 hn10 ha ?_
    refine q_26 ?_
    exact k.fm e1 hS1 rfl rfl
  · refine q_5 rfl ?_
    refine q_3 rfl ?_
    refine q_47 (mj_ev_mono _) [_] rfl rfl rfl (by decide) rfl rfl rfl ?_
    refine c_149T hP hn hn10 ha ?_
    refine q_3 rfl ?_
    refine q_24E (t := 135) (rfl) ?_
    refine q_5 rfl ?_
    refine q_47 (mj_ev_mono _) [] rfl rfl rfl (by decide) rfl rfl rfl ?_
    refine c_154 hP hS (fun I1 e1 hS1 hT1 hG1 => ?_)
    refine q_3 rfl ?_
    refine q_47 (mj_ev_mono _) [_] rfl rfl rfl (by decide) rfl rfl rfl ?_
    refine c_73 hP hT1 hS1.cb.hn hS1.cb.cw ha ?_
    refine q_26 ?_
    exact k.fm e1 hS1 rfl rfl
theorem c_106F1 {x y : Int32} (hP : PS t P) (hS : CS A I) (hx : x < 0 ∨ nI A.w.n ≤ x) (k : kC Q I L P A (.inr 0)) : mj_ev (d + 12) 106 [.ref 0, .int x, .int y] (107, I, L, P) Q := by
  refine ⟨rfl, ?_⟩
  show mj_run (mj_ev (d + 11)) k106 Q (k106 0) [some (.ref 0), some (.int x), some (.int y)] [] (107, I, L, P) 2 12
  refine q_5 rfl ?_
  refine q_3 rfl ?_
  refine q_47 (mj_ev_mono _) [_] rfl rfl rfl (by decide) rfl rfl rfl ?_
  refine c_149F hP hS.cb.hn hS.cb.n10 hx ?_
  exact k.same hS rfl
  skip
theorem c_106F2 {y : Int32} (hP : PS t P) (hS : CS A I) (ha : a < A.w.n) (hy : y < nI 0 ∨ nI 8 < y) (k : kC Q I L P A (.inr 0)) : mj_ev (d + 12) 106 [.ref 0, .int (nI a), .int y] (107, I, L, P) Q := by
  refine ⟨rfl, ?_⟩
  have e : mj_sw (mj_swt 3) 144 y = 144 := sw_no (fun q hq e => by
    subst e
    have hq2 : q ∈ mj_sw3 := hq
    unfold mj_sw3 at hq2
    simp only [List.mem_cons, List.not_mem_nil, or_false] at hq2
    rcases hq2 with rfl | rfl | rfl | rfl | rfl | rfl | rfl | rfl | rfl <;> exact absurd hy (by decide))
  show mj_run (mj_ev (d + 11)) k106 Q (k106 0) [some (.ref 0), some (.int (nI a)), some (.int y)] [] (107, I, L, P) 2 12
  refine q_5 rfl ?_
  refine q_3 rfl ?_
  refine q_47 (mj_ev_mono _) [_] rfl rfl rfl (by decide) rfl rfl rfl ?_
  refine c_149T hP hS.cb.hn hS.cb.n10 ha ?_
  refine q_3 rfl ?_
  refine q_24E (t := 144) (e) ?_
  refine q_30 rfl rfl rfl rfl ?_
  exact k.same hS rfl
end C
