/-! the model reads a sock's line -/
theorem upI_f {I : mj_I} {k j i : Nat} {v : Int32} : mj_upI I k j v k i = if i = j then v else I k i := by
  by_cases e : i = j
  · rw [if_pos e, e, upI_s]
  · rw [if_neg e, upI_j e]
theorem skS_steps {b : Nat → Nat} {n j j' : Nat} (h : skS b n j = .inr j') : numS b n 0 9 (.inr (j + 1)) = .inr (j + 2) ∧ numS b n 0 3 (numS b n 0 9 (.inr (j + 1))) = .inr (j + 3) ∧ numS b n 1 30 (numS b n 0 3 (numS b n 0 9 (.inr (j + 1)))) = .inr (j + 4) ∧ numS b n 0 9 (numS b n 1 30 (numS b n 0 3 (numS b n 0 9 (.inr (j + 1))))) = .inr (j + 5) ∧ skS b n j = .inr (j + 6) := by
  have h' := h
  obtain ⟨j5, h5, rfl, -⟩ := numS_st h
  obtain ⟨j4, h4, rfl, -⟩ := numS_st h5
  obtain ⟨j3, h3, rfl, -⟩ := numS_st h4
  obtain ⟨j2, h2, rfl, -⟩ := numS_st h3
  obtain ⟨j1, h1, rfl, -⟩ := numS_st h2
  cases h1
  exact ⟨h2, h3, h4, h5, h'⟩
section M
variable {I : mj_I} {L : mj_L} {P : mj_P} {Q : mj_Q} {d n r t j : Nat} {b : Nat → Nat} {O : List Nat} {lo hi : Nat} {st : ST} {W : NR}
set_option maxHeartbeats 1000000 in
theorem s_193 (hP : PS t P) (hB : MB b n I) (hS : SM b n (.inr j) I L) (hM : MR W O I) (hW : W.ok) (k : ∀ I' L' st', Eqf (frm RdC RdF) I I' → EqL (frm [] [(73, 21)]) L L' → st' = (if W.n = 10 then .inl (2, j) else skS b n j) → SM b n st' I' L' → (∀ j', st' = .inr j' → MR (skW b n j W) O I') → Q (.inl none) (107, I', L', P)) : mj_ev (d + 4) 193 [.ref 73, .int (nI (tK b n j))] (107, I, L, P) Q := by
  refine ⟨rfl, ?_⟩
  show mj_run (mj_ev (d + 3)) k193 Q (k193 0) [some (.ref 73), some (.int (nI (tK b n j))), none] [] (107, I, L, P) 0 0
  obtain ⟨g11, gT⟩ := hS
  have hM' := hM
  obtain ⟨m1, m2, m3, m4, m5, m6, m7⟩ := hM
  have hn10 : W.n ≤ 10 := hW.1.1
  by_cases c10 : W.n = 10
  · have z11 : mj_upI (mj_upI I 73 11 (nI 2)) 73 12 (nI (tB b n j)) 73 11 = nI 2 := rfl
    refine q_5 rfl ?_
    first | refine q_31E rfl (by decide) m1 ?_ | refine q_31 rfl (by decide) ?_
    refine q_0 ?_
    refine q_neN (by omega) (by omega) (fun hh => absurd hh (by omega)) (fun hh => ?_)
    refine q_5 rfl ?_
    refine q_0 ?_
    refine q_47 (mj_ev_mono _) [_] rfl rfl rfl (by decide) rfl rfl rfl ?_
    refine s_176G g11.1 gT.2.2.1 ?_
    refine q_5 rfl ?_
    refine q_47 (mj_ev_mono _) [] rfl rfl rfl (by decide) rfl rfl rfl ?_
    refine s_177B z11 (by omega) (by omega) ?_
    first | refine q_neN0 (by omega) (fun hh => absurd hh (by omega)) (fun hh => ?_) | refine q_neI0 (fun hh => absurd hh (by omega)) (fun hh => ?_)
    refine q_25 ?_
    exact k _ L (.inl (2, j)) ((Eqf.rf.up rfl).up rfl) (fun _ _ _ => rfl) (if_pos c10).symm (SM_flt (by omega) (by omega)) (fun j' e => by cases e)
  · have ln : W.n < 10 := by omega
    rw [if_neg c10] at k
    cases hq : skS b n j with
    | inl e =>
      rw [hq] at k
      refine q_5 rfl ?_
      first | refine q_31E rfl (by decide) m1 ?_ | refine q_31E rfl (by decide) m1b ?_ | refine q_31 rfl (by decide) ?_
      refine q_0 ?_
      refine q_neN (by omega) (by omega) (fun hh => ?_) (fun hh => absurd hh (by omega))
      refine q_5 rfl ?_
      refine q_47 (mj_ev_mono _) [] rfl rfl rfl (by decide) rfl rfl rfl ?_
      refine s_177G g11.1 ?_
      first | refine q_neN0 (by omega) (fun hh => ?_) (fun hh => absurd hh (by omega)) | refine q_neI0 (fun hh => ?_) (fun hh => absurd (by omega) hh)
      refine q_5 rfl ?_
      refine q_47 (mj_ev_mono _) [] rfl rfl rfl (by decide) rfl rfl rfl ?_
      refine s_172 (j := j + 1) hP hB gT.1 (fun I1 L1 e1 eL1 hT1 => ?_)
      have m1b : I1 73 22 = nI W.n := (e1 73 22 rfl).trans m1
      have hS1 : SM b n (.inr (j + 1)) I1 L1 := ⟨g11.tk e1, hT1⟩
      refine q_5 rfl ?_
      first | refine q_31E rfl (by decide) m1 ?_ | refine q_31E rfl (by decide) m1b ?_ | refine q_31 rfl (by decide) ?_
      refine q_6 rfl rfl rfl ?_
      refine q_5 rfl ?_
      refine q_33 rfl (by decide) (hP _ _ _ rfl) ?_
      refine q_3 rfl ?_
      refine q_3 rfl ?_
      refine q_42 _ rfl (by decide) rfl (by show _ < 11; omega) (by decide) ?_
      refine q_5 rfl ?_
      refine q_33 rfl (by decide) (hP _ _ _ rfl) ?_
      refine q_0 ?_
      refine q_3 rfl ?_
      first | refine q_add ?_ | refine q_11 rfl ?_
      refine q_5 rfl ?_
      refine q_0 ?_
      refine q_0 ?_
      refine q_47 (mj_ev_mono _) [_, _] rfl rfl rfl (by decide) rfl rfl rfl ?_
      refine s_180 (lo := 0) (hi := 9) (st := .inr (j + 1)) hP (hB.fr (fun q => e1 79 q rfl) (e1 73 14 rfl)) (hS1.fr (fun q hq => by rcases hq with rfl | rfl | rfl | rfl | rfl | rfl | rfl | rfl <;> rfl) rfl) (by omega) (by omega) (fun v1 I2 L2 e2 eL2 hS2 hv2 => ?_)
      refine q_42 _ rfl (by decide) rfl (by show _ < 33; omega) (by decide) ?_
      refine q_5 rfl ?_
      refine q_33 rfl (by decide) (hP _ _ _ rfl) ?_
      refine q_3 rfl ?_
      refine q_5 rfl ?_
      refine q_0 ?_
      refine q_0 ?_
      refine q_47 (mj_ev_mono _) [_, _] rfl rfl rfl (by decide) rfl rfl rfl ?_
      refine s_180 (lo := 0) (hi := 3) hP (hB.fr (fun q => ((e2 79 q rfl).trans (e1 79 q rfl))) ((e2 73 14 rfl).trans (e1 73 14 rfl))) (hS2.fr (fun q hq => by rcases hq with rfl | rfl | rfl | rfl | rfl | rfl | rfl | rfl <;> rfl) rfl) (by omega) (by omega) (fun v2 I3 L3 e3 eL3 hS3 hv3 => ?_)
      refine q_42 _ rfl (by decide) rfl (by show _ < 11; omega) (by decide) ?_
      refine q_5 rfl ?_
      refine q_33 rfl (by decide) (hP _ _ _ rfl) ?_
      refine q_3 rfl ?_
      refine q_5 rfl ?_
      refine q_0 ?_
      refine q_0 ?_
      refine q_47 (mj_ev_mono _) [_, _] rfl rfl rfl (by decide) rfl rfl rfl ?_
      refine s_180 (lo := 1) (hi := 30) hP (hB.fr (fun q => ((e3 79 q rfl).trans ((e2 79 q rfl).trans (e1 79 q rfl)))) ((e3 73 14 rfl).trans ((e2 73 14 rfl).trans (e1 73 14 rfl)))) (hS3.fr (fun q hq => by rcases hq with rfl | rfl | rfl | rfl | rfl | rfl | rfl | rfl <;> rfl) rfl) (by omega) (by omega) (fun v3 I4 L4 e4 eL4 hS4 hv4 => ?_)
      refine q_42 _ rfl (by decide) rfl (by show _ < 11; omega) (by decide) ?_
      refine q_5 rfl ?_
      refine q_33 rfl (by decide) (hP _ _ _ rfl) ?_
      refine q_0 ?_
      refine q_3 rfl ?_
      first | refine q_add ?_ | refine q_11 rfl ?_
      refine q_5 rfl ?_
      refine q_0 ?_
      refine q_0 ?_
      refine q_47 (mj_ev_mono _) [_, _] rfl rfl rfl (by decide) rfl rfl rfl ?_
      refine s_180 (lo := 0) (hi := 9) hP (hB.fr (fun q => ((e4 79 q rfl).trans ((e3 79 q rfl).trans ((e2 79 q rfl).trans (e1 79 q rfl))))) ((e4 73 14 rfl).trans ((e3 73 14 rfl).trans ((e2 73 14 rfl).trans (e1 73 14 rfl))))) (hS4.fr (fun q hq => by rcases hq with rfl | rfl | rfl | rfl | rfl | rfl | rfl | rfl <;> rfl) rfl) (by omega) (by omega) (fun v4 I5 L5 e5 eL5 hS5 hv5 => ?_)
      refine q_42 _ rfl (by decide) rfl (by show _ < 33; omega) (by decide) ?_
      refine q_5 rfl ?_
      refine q_33 rfl (by decide) (hP _ _ _ rfl) ?_
      refine q_3 rfl ?_
      refine q_5 rfl ?_
      refine q_0 ?_
      refine q_0 ?_
      refine q_47 (mj_ev_mono _) [_, _] rfl rfl rfl (by decide) rfl rfl rfl ?_
      refine s_180 (lo := 0) (hi := 20) hP (hB.fr (fun q => ((e5 79 q rfl).trans ((e4 79 q rfl).trans ((e3 79 q rfl).trans ((e2 79 q rfl).trans (e1 79 q rfl)))))) ((e5 73 14 rfl).trans ((e4 73 14 rfl).trans ((e3 73 14 rfl).trans ((e2 73 14 rfl).trans (e1 73 14 rfl)))))) (hS5.fr (fun q hq => by rcases hq with rfl | rfl | rfl | rfl | rfl | rfl | rfl | rfl <;> rfl) rfl) (by omega) (by omega) (fun v5 I6 L6 e6 eL6 hS6 hv6 => ?_)
      have hS6' : SM b n (skS b n j) I6 L6 := hS6
      rw [hq] at hS6'
      refine q_42 _ rfl (by decide) rfl (by show _ < 11; omega) (by decide) ?_
      refine q_5 rfl ?_
      refine q_33 rfl (by decide) (hP _ _ _ rfl) ?_
      refine q_0 ?_
      refine q_3 rfl ?_
      first | refine q_add ?_ | refine q_11 rfl ?_
      refine q_1 ?_
      refine q_42 _ rfl (by decide) rfl (by show _ < 33; omega) (by decide) ?_
      refine q_5 rfl ?_
      refine q_47 (mj_ev_mono _) [] rfl rfl rfl (by decide) rfl rfl rfl ?_
      refine s_177B (f := e.1) hS6'.2.2.1 hS6'.1 hS6'.2.1 ?_
      first | refine q_eqN0 (by omega) (fun hh => ?_) (fun hh => absurd hh (by omega)) | refine q_eqI0 (fun hh => ?_) (fun hh => absurd (by omega) hh)
      refine q_25 ?_
      refine k _ L6 (.inl e) ?_ ((((((eL1.tr eL2).tr eL3).tr eL4).tr eL5).tr eL6)) rfl (hS6'.fr (fun q hq => by rcases hq with rfl | rfl | rfl | rfl | rfl | rfl | rfl | rfl <;> rfl) rfl) (fun j' e => by cases e)
      exact (((((((((((e1.to rfl rfl).up rfl).tr (e2.to rfl rfl)).up rfl).tr (e3.to rfl rfl)).up rfl).tr (e4.to rfl rfl)).up rfl).tr (e5.to rfl rfl)).up rfl).tr (e6.to rfl rfl) |>.up rfl) |>.up rfl
    | inr j' =>
      obtain ⟨x1, x2, x3, x4, x5⟩ := skS_steps hq
      rw [hq] at k
      refine q_5 rfl ?_
      first | refine q_31E rfl (by decide) m1 ?_ | refine q_31E rfl (by decide) m1b ?_ | refine q_31E rfl (by decide) m1c ?_ | refine q_31 rfl (by decide) ?_
      refine q_0 ?_
      refine q_neN (by omega) (by omega) (fun hh => ?_) (fun hh => absurd hh (by omega))
      refine q_5 rfl ?_
      refine q_47 (mj_ev_mono _) [] rfl rfl rfl (by decide) rfl rfl rfl ?_
      refine s_177G g11.1 ?_
      first | refine q_neN0 (by omega) (fun hh => ?_) (fun hh => absurd hh (by omega)) | refine q_neI0 (fun hh => ?_) (fun hh => absurd (by omega) hh)
      refine q_5 rfl ?_
      refine q_47 (mj_ev_mono _) [] rfl rfl rfl (by decide) rfl rfl rfl ?_
      refine s_172 (j := j + 1) hP hB gT.1 (fun I1 L1 e1 eL1 hT1 => ?_)
      have m1b : I1 73 22 = nI W.n := (e1 73 22 rfl).trans m1
      have hS1 : SM b n (.inr (j + 1)) I1 L1 := ⟨g11.tk e1, hT1⟩
      refine q_5 rfl ?_
      first | refine q_31E rfl (by decide) m1 ?_ | refine q_31E rfl (by decide) m1b ?_ | refine q_31E rfl (by decide) m1c ?_ | refine q_31 rfl (by decide) ?_
      refine q_6 rfl rfl rfl ?_
      refine q_5 rfl ?_
      refine q_33 rfl (by decide) (hP _ _ _ rfl) ?_
      refine q_3 rfl ?_
      refine q_3 rfl ?_
      refine q_42 _ rfl (by decide) rfl (by show _ < 11; omega) (by decide) ?_
      refine q_5 rfl ?_
      refine q_33 rfl (by decide) (hP _ _ _ rfl) ?_
      refine q_0 ?_
      refine q_3 rfl ?_
      first | refine q_add ?_ | refine q_11 rfl ?_
      refine q_5 rfl ?_
      refine q_0 ?_
      refine q_0 ?_
      refine q_47 (mj_ev_mono _) [_, _] rfl rfl rfl (by decide) rfl rfl rfl ?_
      refine s_180 (lo := 0) (hi := 9) (st := .inr (j + 1)) hP (hB.fr (fun q => e1 79 q rfl) (e1 73 14 rfl)) (hS1.fr (fun q hq => by rcases hq with rfl | rfl | rfl | rfl | rfl | rfl | rfl | rfl <;> rfl) rfl) (by omega) (by omega) (fun v1 I2 L2 e2 eL2 hS2 hv2 => ?_)
      refine q_42 _ rfl (by decide) rfl (by show _ < 33; omega) (by decide) ?_
      refine q_5 rfl ?_
      refine q_33 rfl (by decide) (hP _ _ _ rfl) ?_
      refine q_3 rfl ?_
      refine q_5 rfl ?_
      refine q_0 ?_
      refine q_0 ?_
      refine q_47 (mj_ev_mono _) [_, _] rfl rfl rfl (by decide) rfl rfl rfl ?_
      refine s_180 (lo := 0) (hi := 3) hP (hB.fr (fun q => ((e2 79 q rfl).trans (e1 79 q rfl))) ((e2 73 14 rfl).trans (e1 73 14 rfl))) (hS2.fr (fun q hq => by rcases hq with rfl | rfl | rfl | rfl | rfl | rfl | rfl | rfl <;> rfl) rfl) (by omega) (by omega) (fun v2 I3 L3 e3 eL3 hS3 hv3 => ?_)
      refine q_42 _ rfl (by decide) rfl (by show _ < 11; omega) (by decide) ?_
      refine q_5 rfl ?_
      refine q_33 rfl (by decide) (hP _ _ _ rfl) ?_
      refine q_3 rfl ?_
      refine q_5 rfl ?_
      refine q_0 ?_
      refine q_0 ?_
      refine q_47 (mj_ev_mono _) [_, _] rfl rfl rfl (by decide) rfl rfl rfl ?_
      refine s_180 (lo := 1) (hi := 30) hP (hB.fr (fun q => ((e3 79 q rfl).trans ((e2 79 q rfl).trans (e1 79 q rfl)))) ((e3 73 14 rfl).trans ((e2 73 14 rfl).trans (e1 73 14 rfl)))) (hS3.fr (fun q hq => by rcases hq with rfl | rfl | rfl | rfl | rfl | rfl | rfl | rfl <;> rfl) rfl) (by omega) (by omega) (fun v3 I4 L4 e4 eL4 hS4 hv4 => ?_)
      refine q_42 _ rfl (by decide) rfl (by show _ < 11; omega) (by decide) ?_
      refine q_5 rfl ?_
      refine q_33 rfl (by decide) (hP _ _ _ rfl) ?_
      refine q_0 ?_
      refine q_3 rfl ?_
      first | refine q_add ?_ | refine q_11 rfl ?_
      refine q_5 rfl ?_
      refine q_0 ?_
      refine q_0 ?_
      refine q_47 (mj_ev_mono _) [_, _] rfl rfl rfl (by decide) rfl rfl rfl ?_
      refine s_180 (lo := 0) (hi := 9) hP (hB.fr (fun q => ((e4 79 q rfl).trans ((e3 79 q rfl).trans ((e2 79 q rfl).trans (e1 79 q rfl))))) ((e4 73 14 rfl).trans ((e3 73 14 rfl).trans ((e2 73 14 rfl).trans (e1 73 14 rfl))))) (hS4.fr (fun q hq => by rcases hq with rfl | rfl | rfl | rfl | rfl | rfl | rfl | rfl <;> rfl) rfl) (by omega) (by omega) (fun v4 I5 L5 e5 eL5 hS5 hv5 => ?_)
      refine q_42 _ rfl (by decide) rfl (by show _ < 33; omega) (by decide) ?_
      refine q_5 rfl ?_
      refine q_33 rfl (by decide) (hP _ _ _ rfl) ?_
      refine q_3 rfl ?_
      refine q_5 rfl ?_
      refine q_0 ?_
      refine q_0 ?_
      refine q_47 (mj_ev_mono _) [_, _] rfl rfl rfl (by decide) rfl rfl rfl ?_
      refine s_180 (lo := 0) (hi := 20) hP (hB.fr (fun q => ((e5 79 q rfl).trans ((e4 79 q rfl).trans ((e3 79 q rfl).trans ((e2 79 q rfl).trans (e1 79 q rfl)))))) ((e5 73 14 rfl).trans ((e4 73 14 rfl).trans ((e3 73 14 rfl).trans ((e2 73 14 rfl).trans (e1 73 14 rfl)))))) (hS5.fr (fun q hq => by rcases hq with rfl | rfl | rfl | rfl | rfl | rfl | rfl | rfl <;> rfl) rfl) (by omega) (by omega) (fun v5 I6 L6 e6 eL6 hS6 hv6 => ?_)
      have hS6' : SM b n (skS b n j) I6 L6 := hS6
      rw [hq] at hS6'
      have m1c : I6 73 22 = nI W.n := (e6 73 22 rfl).trans ((e5 73 22 rfl).trans ((e4 73 22 rfl).trans ((e3 73 22 rfl).trans ((e2 73 22 rfl).trans m1b))))
      refine q_42 _ rfl (by decide) rfl (by show _ < 11; omega) (by decide) ?_
      refine q_5 rfl ?_
      refine q_33 rfl (by decide) (hP _ _ _ rfl) ?_
      refine q_0 ?_
      refine q_3 rfl ?_
      first | refine q_add ?_ | refine q_11 rfl ?_
      refine q_1 ?_
      refine q_42 _ rfl (by decide) rfl (by show _ < 33; omega) (by decide) ?_
      refine q_5 rfl ?_
      refine q_47 (mj_ev_mono _) [] rfl rfl rfl (by decide) rfl rfl rfl ?_
      refine s_177G hS6'.1.1 ?_
      first | refine q_eqN0 (by omega) (fun hh => absurd hh (by omega)) (fun hh => ?_) | refine q_eqI0 (fun hh => absurd hh (by omega)) (fun hh => ?_)
      refine q_5 rfl ?_
      refine q_18 rfl ?_
      first | refine q_31E rfl (by decide) m1 ?_ | refine q_31E rfl (by decide) m1b ?_ | refine q_31E rfl (by decide) m1c ?_ | refine q_31 rfl (by decide) ?_
      refine q_0 ?_
      first | refine q_add ?_ | refine q_11 rfl ?_
      refine q_34 rfl (by decide) ?_
      refine q_25 ?_
      refine k _ L6 (.inr j') ?_ ((((((eL1.tr eL2).tr eL3).tr eL4).tr eL5).tr eL6)) rfl (hS6'.fr (fun q hq => by rcases hq with rfl | rfl | rfl | rfl | rfl | rfl | rfl | rfl <;> rfl) rfl) (fun _ _ => ?_)
      · exact ((((((((((((e1.to rfl rfl).up rfl).tr (e2.to rfl rfl)).up rfl).tr (e3.to rfl rfl)).up rfl).tr (e4.to rfl rfl)).up rfl).tr (e5.to rfl rfl)).up rfl).tr (e6.to rfl rfl) |>.up rfl) |>.up rfl) |>.up rfl
      have w1 := hv2 _ _ rfl x1
      have w2 := hv3 _ _ x1 x2
      have w3 := hv4 _ _ x2 x3
      have w4 := hv5 _ _ x3 x4
      have w5 := hv6 _ _ x4 x5
      have a81 : ∀ p, I6 81 p = if p = W.n then nI (tK b n j) else I 81 p := fun p => (e6 81 p rfl).trans ((e5 81 p rfl).trans ((e4 81 p rfl).trans ((e3 81 p rfl).trans ((e2 81 p rfl).trans (upI_f.trans (by rw [e1 81 p rfl]))))))
      have a82 : ∀ p, I6 82 p = if p = W.n then v2 else I 82 p := fun p => (e6 82 p rfl).trans ((e5 82 p rfl).trans ((e4 82 p rfl).trans (upI_f.trans (by rw [show I3 82 p = I 82 p from (e3 82 p rfl).trans ((e2 82 p rfl).trans (e1 82 p rfl))]))))
      have a83 : ∀ p, I6 83 p = if p = W.n then v3 else I 83 p := fun p => (e6 83 p rfl).trans ((e5 83 p rfl).trans (upI_f.trans (by rw [show I4 83 p = I 83 p from (e4 83 p rfl).trans ((e3 83 p rfl).trans ((e2 83 p rfl).trans (e1 83 p rfl)))])))
      have a84 : ∀ p, mj_upI I6 84 W.n v5 84 p = if p = W.n then v5 else I 84 p := fun p => upI_f.trans (by rw [show I6 84 p = I 84 p from (e6 84 p rfl).trans ((e5 84 p rfl).trans ((e4 84 p rfl).trans ((e3 84 p rfl).trans ((e2 84 p rfl).trans (e1 84 p rfl)))))])
      have a85 : ∀ q, mj_upI (mj_upI I6 84 W.n v5) 85 (23 + W.n) (-(nI 1)) 85 q = if q = 23 + W.n then -(nI 1) else if q = 12 + W.n then v4 else if q = 1 + W.n then v1 else I 85 q := fun q => upI_f.trans (by rw [show mj_upI I6 84 W.n v5 85 q = if q = 12 + W.n then v4 else if q = 1 + W.n then v1 else I 85 q from (e6 85 q rfl).trans (upI_f.trans (by rw [show I5 85 q = if q = 1 + W.n then v1 else I 85 q from (e5 85 q rfl).trans ((e4 85 q rfl).trans ((e3 85 q rfl).trans (upI_f.trans (by rw [show I2 85 q = I 85 q from (e2 85 q rfl).trans (e1 85 q rfl)]))))]))])
      have a73 : ∀ q, q = 23 ∨ q = 24 ∨ q = 25 → I6 73 q = I 73 q := fun q hq => by rcases hq with rfl | rfl | rfl <;> exact (e6 73 _ rfl).trans ((e5 73 _ rfl).trans ((e4 73 _ rfl).trans ((e3 73 _ rfl).trans ((e2 73 _ rfl).trans (e1 73 _ rfl)))))
      have a86 : I6 86 = I 86 := funext (fun q => (e6 86 q rfl).trans ((e5 86 q rfl).trans ((e4 86 q rfl).trans ((e3 86 q rfl).trans ((e2 86 q rfl).trans (e1 86 q rfl))))))
      refine ⟨rfl, fun p hp => ?_, ?_, ?_, ?_, (a73 25 (by omega)).trans m6, ?_⟩
      · have hp' : p < W.n + 1 := hp
        refine ⟨(a81 p).trans ?_, (a82 p).trans ?_, (a83 p).trans ?_, (a84 p).trans ?_, (a85 (1 + p)).trans ?_, (a85 (12 + p)).trans ?_, (a85 (23 + p)).trans ?_⟩
        · show _ = nI (upN _ _ _ p)
          unfold upN
          by_cases c : p = W.n
          · rw [if_pos c, if_pos c]
          · rw [if_neg c, if_neg c]
            exact (m2 p (by omega)).1
        · show _ = nI (upN _ _ _ p)
          unfold upN
          by_cases c : p = W.n
          · rw [if_pos c, if_pos c, w2]
          · rw [if_neg c, if_neg c]
            exact (m2 p (by omega)).2.1
        · show _ = nI (upN _ _ _ p)
          unfold upN
          by_cases c : p = W.n
          · rw [if_pos c, if_pos c, w3]
          · rw [if_neg c, if_neg c]
            exact (m2 p (by omega)).2.2.1
        · show _ = nI (upN _ _ _ p)
          unfold upN
          by_cases c : p = W.n
          · rw [if_pos c, if_pos c, w5]
          · rw [if_neg c, if_neg c]
            exact (m2 p (by omega)).2.2.2.1
        · show _ = nI (upN _ _ _ p)
          unfold upN
          rw [if_neg (by omega), if_neg (by omega)]
          by_cases c : p = W.n
          · rw [if_pos c, if_pos (by omega), w1]
          · rw [if_neg c, if_neg (by omega)]
            exact (m2 p (by omega)).2.2.2.2.1
        · show _ = nI (upN _ _ _ p)
          unfold upN
          rw [if_neg (by omega)]
          by_cases c : p = W.n
          · rw [if_pos c, if_pos (by omega), w4]
          · rw [if_neg c, if_neg (by omega), if_neg (by omega)]
            exact (m2 p (by omega)).2.2.2.2.2.1
        · show _ = mI (if p = W.n then none else W.m p)
          by_cases c : p = W.n
          · rw [if_pos c, if_pos (by omega)]
            rfl
          · rw [if_neg c, if_neg (by omega), if_neg (by omega), if_neg (by omega)]
            exact (m2 p (by omega)).2.2.2.2.2.2
      · refine (a85 0).trans ?_
        rw [if_neg (by omega), if_neg (by omega), if_neg (by omega)]
        exact m3
      · show ruleO O (I6 73 23) 0 6 W.1.al
        rw [a73 23 (by omega)]
        exact m4
      · show ruleO O (I6 73 24) 6 10 W.1.li
        rw [a73 24 (by omega)]
        exact m5
      · show OUT O (I6 86)
        rw [a86]
        exact m7
end M
