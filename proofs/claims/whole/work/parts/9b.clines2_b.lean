/-! the class reads a sock, a couple (what is told) -/
section C
variable {I : mj_I} {L : mj_L} {P : mj_P} {Q : mj_Q} {d n r j s l wi : Nat} {b : Nat → Nat} {st : ST} {lo hi M : Nat} {W : NR} {R0 : RP}
def FQb : Nat → Nat → Bool := frm [4, 5, 6, 7, 9, 10, 11, 14] ((3, 0) :: (8, 0) :: (12, 1) :: (12, 2) :: (12, 3) :: (12, 4) :: (12, 5) :: (12, 6) :: (29, 10) :: rdG)
theorem RB.qb {I' : mj_I} (h : RB b n I) (e : Eqf FQb I I') : RB b n I' := h.fr (fun q => e 1 q rfl) (e 29 3 rfl)
set_option maxHeartbeats 1000000 in
theorem c_44b (hP : PS 3 P) (hB : RB b n I) (hS : SC b n (.inr j) I) (hM : MCb W R0 I) (hW : W.ok) (k : ∀ I' st', Eqf FQb I I' → st' = (if W.n = 10 then .inl (2, j) else skS b n j) → SC b n st' I' → (∀ j', st' = .inr j' → MCb (skW b n j W) R0 I') → Q (.inl none) (107, I', L, P)) : mj_ev (d + 8) 44 [.ref 29] (107, I, L, P) Q := by
  refine ⟨rfl, ?_⟩
  show mj_run (mj_ev (d + 7)) k44 Q (k44 0) [some (.ref 29), none] [] (107, I, L, P) 0 0
  obtain ⟨g1, g2⟩ := hS
  have g6 := g2.kd
  obtain ⟨m1, m2, m3, m4, m5, m6, m7⟩ := hM
  have hn10 : W.n ≤ 10 := hW.1.1
  by_cases c10 : W.n = 10
  · refine q_5 rfl ?_
    refine q_33 rfl (by decide) (hP _ _ _ rfl) ?_
    first | refine q_31E rfl (by decide) m1 ?_ | refine q_31 rfl (by decide) ?_
    refine q_6 rfl rfl rfl ?_
    refine q_3 rfl ?_
    refine q_0 ?_
    refine q_ltN (by omega) (by omega) (fun hh => absurd hh (by omega)) (fun hh => ?_)
    refine q_5 rfl ?_
    refine q_0 ?_
    refine q_47 (mj_ev_mono _) [_] rfl rfl rfl (by decide) rfl rfl rfl ?_
    refine c_38G g1 g2.2.1 ?_
    refine q_25 ?_
    exact k _ (.inl (2, j)) (((Eqf.rf.up rfl).up rfl).up rfl) (if_pos c10).symm (SC_flt (by omega) (by omega)) (fun j' e => by cases e)
  · have ln : W.n < 10 := by omega
    rw [if_neg c10] at k
    refine q_5 rfl ?_
    refine q_33 rfl (by decide) (hP _ _ _ rfl) ?_
    first | refine q_31E rfl (by decide) m1 ?_ | refine q_31E rfl (by decide) m1c ?_ | refine q_31 rfl (by decide) ?_
    refine q_6 rfl rfl rfl ?_
    refine q_3 rfl ?_
    refine q_0 ?_
    refine q_ltN (by omega) (by omega) (fun hh => ?_) (fun hh => absurd hh (by omega))
    refine q_5 rfl ?_
    refine q_33 rfl (by decide) (hP _ _ _ rfl) ?_
    refine q_33 rfl (by decide) (hP _ _ _ rfl) ?_
    refine q_3 rfl ?_
    refine q_5 rfl ?_
    first | refine q_31E rfl (by decide) g6 ?_ | refine q_31 rfl (by decide) ?_
    refine q_42 _ rfl (by decide) rfl (by show _ < 11; omega) (by decide) ?_
    refine q_5 rfl ?_
    refine q_47 (mj_ev_mono _) [] rfl rfl rfl (by decide) rfl rfl rfl ?_
    refine c_39 (j := j + 1) hP (hB.fr (fun _ => rfl) rfl) g1 g2.1 (fun I1 e1 hT1 => ?_)
    have hS1 : SC b n (.inr (j + 1)) I1 := ⟨(e1 29 9 rfl).trans g1, hT1⟩
    have E1 : Eqf FQb I I1 := (Eqf.rf.up rfl).tr (e1.to rfl rfl)
    refine q_5 rfl ?_
    refine q_33 rfl (by decide) (hP _ _ _ rfl) ?_
    refine q_33 rfl (by decide) (hP _ _ _ rfl) ?_
    refine q_33 rfl (by decide) (hP _ _ _ rfl) ?_
    refine q_3 rfl ?_
    refine q_5 rfl ?_
    refine q_0 ?_
    refine q_0 ?_
    refine q_47 (mj_ev_mono _) [_, _] rfl rfl rfl (by decide) rfl rfl rfl ?_
    refine c_45b (lo := 0) (hi := 9) (st := .inr (j + 1)) hP (hB.qb E1) hS1 (by omega) (by omega) (fun v1 I2 e2 hS2 hv2 => ?_)
    have E2 : Eqf FQb I (mj_upI I2 9 W.n v1) := (E1.tr (e2.to rfl rfl)).up rfl
    refine q_42 _ rfl (by decide) rfl (by show _ < 10; omega) (by decide) ?_
    refine q_5 rfl ?_
    refine q_33 rfl (by decide) (hP _ _ _ rfl) ?_
    refine q_33 rfl (by decide) (hP _ _ _ rfl) ?_
    refine q_3 rfl ?_
    refine q_5 rfl ?_
    refine q_0 ?_
    refine q_0 ?_
    refine q_47 (mj_ev_mono _) [_, _] rfl rfl rfl (by decide) rfl rfl rfl ?_
    refine c_45b (lo := 0) (hi := 3) hP (hB.qb E2) (hS2.fr (fun q hq => by rcases hq with rfl | rfl | rfl | rfl | rfl | rfl | rfl <;> rfl)) (by omega) (by omega) (fun v2 I3 e3 hS3 hv3 => ?_)
    have E3 : Eqf FQb I (mj_upI I3 5 W.n v2) := (E2.tr (e3.to rfl rfl)).up rfl
    refine q_42 _ rfl (by decide) rfl (by show _ < 11; omega) (by decide) ?_
    refine q_5 rfl ?_
    refine q_33 rfl (by decide) (hP _ _ _ rfl) ?_
    refine q_33 rfl (by decide) (hP _ _ _ rfl) ?_
    refine q_3 rfl ?_
    refine q_5 rfl ?_
    refine q_0 ?_
    refine q_0 ?_
    refine q_47 (mj_ev_mono _) [_, _] rfl rfl rfl (by decide) rfl rfl rfl ?_
    refine c_45b (lo := 1) (hi := 30) hP (hB.qb E3) (hS3.fr (fun q hq => by rcases hq with rfl | rfl | rfl | rfl | rfl | rfl | rfl <;> rfl)) (by omega) (by omega) (fun v3 I4 e4 hS4 hv4 => ?_)
    have E4 : Eqf FQb I (mj_upI I4 6 W.n v3) := (E3.tr (e4.to rfl rfl)).up rfl
    refine q_42 _ rfl (by decide) rfl (by show _ < 11; omega) (by decide) ?_
    refine q_5 rfl ?_
    refine q_33 rfl (by decide) (hP _ _ _ rfl) ?_
    refine q_33 rfl (by decide) (hP _ _ _ rfl) ?_
    refine q_33 rfl (by decide) (hP _ _ _ rfl) ?_
    refine q_3 rfl ?_
    refine q_5 rfl ?_
    refine q_0 ?_
    refine q_0 ?_
    refine q_47 (mj_ev_mono _) [_, _] rfl rfl rfl (by decide) rfl rfl rfl ?_
    refine c_45b (lo := 0) (hi := 9) hP (hB.qb E4) (hS4.fr (fun q hq => by rcases hq with rfl | rfl | rfl | rfl | rfl | rfl | rfl <;> rfl)) (by omega) (by omega) (fun v4 I5 e5 hS5 hv5 => ?_)
    have E5 : Eqf FQb I (mj_upI I5 10 W.n v4) := (E4.tr (e5.to rfl rfl)).up rfl
    refine q_42 _ rfl (by decide) rfl (by show _ < 10; omega) (by decide) ?_
    refine q_5 rfl ?_
    refine q_33 rfl (by decide) (hP _ _ _ rfl) ?_
    refine q_33 rfl (by decide) (hP _ _ _ rfl) ?_
    refine q_3 rfl ?_
    refine q_5 rfl ?_
    refine q_0 ?_
    refine q_0 ?_
    refine q_47 (mj_ev_mono _) [_, _] rfl rfl rfl (by decide) rfl rfl rfl ?_
    refine c_45b (lo := 0) (hi := 20) hP (hB.qb E5) (hS5.fr (fun q hq => by rcases hq with rfl | rfl | rfl | rfl | rfl | rfl | rfl <;> rfl)) (by omega) (by omega) (fun v5 I6 e6 hS6 hv6 => ?_)
    have E6 : Eqf FQb I (mj_upI I6 7 W.n v5) := (E5.tr (e6.to rfl rfl)).up rfl
    have m1c : mj_upI I6 7 W.n v5 3 0 = nI W.n := (e6 3 0 rfl).trans ((e5 3 0 rfl).trans ((e4 3 0 rfl).trans ((e3 3 0 rfl).trans ((e2 3 0 rfl).trans ((e1 3 0 rfl).trans m1)))))
    refine q_42 _ rfl (by decide) rfl (by show _ < 11; omega) (by decide) ?_
    refine q_5 rfl ?_
    refine q_33 rfl (by decide) (hP _ _ _ rfl) ?_
    refine q_18 rfl ?_
    first | refine q_31E rfl (by decide) m1 ?_ | refine q_31E rfl (by decide) m1c ?_ | refine q_31 rfl (by decide) ?_
    refine q_0 ?_
    first | refine q_add ?_ | refine q_11 rfl ?_
    refine q_34 rfl (by decide) ?_
    refine q_25 ?_
    refine k _ (skS b n j) (E6.up rfl) rfl (SC.fr (I := I6) hS6 (fun q hq => by rcases hq with rfl | rfl | rfl | rfl | rfl | rfl | rfl <;> rfl)) (fun j' hq => ?_)
    obtain ⟨x1, x2, x3, x4, x5⟩ := skS_steps hq
    have w1 := hv2 _ _ rfl x1
    have w2 := hv3 _ _ x1 x2
    have w3 := hv4 _ _ x2 x3
    have w4 := hv5 _ _ x3 x4
    have w5 := hv6 _ _ x4 x5
    have a4 : ∀ p, I6 4 p = if p = W.n then nI (tK b n j) else I 4 p := fun p => (e6 4 p rfl).trans ((e5 4 p rfl).trans ((e4 4 p rfl).trans ((e3 4 p rfl).trans ((e2 4 p rfl).trans ((e1 4 p rfl).trans upI_f)))))
    have a9 : ∀ p, I6 9 p = if p = W.n then v1 else I 9 p := fun p => (e6 9 p rfl).trans ((e5 9 p rfl).trans ((e4 9 p rfl).trans ((e3 9 p rfl).trans (upI_f.trans (by rw [show I2 9 p = I 9 p from (e2 9 p rfl).trans (e1 9 p rfl)])))))
    have a5 : ∀ p, I6 5 p = if p = W.n then v2 else I 5 p := fun p => (e6 5 p rfl).trans ((e5 5 p rfl).trans ((e4 5 p rfl).trans (upI_f.trans (by rw [show I3 5 p = I 5 p from (e3 5 p rfl).trans ((e2 5 p rfl).trans (e1 5 p rfl))]))))
    have a6 : ∀ p, I6 6 p = if p = W.n then v3 else I 6 p := fun p => (e6 6 p rfl).trans ((e5 6 p rfl).trans (upI_f.trans (by rw [show I4 6 p = I 6 p from (e4 6 p rfl).trans ((e3 6 p rfl).trans ((e2 6 p rfl).trans (e1 6 p rfl)))])))
    have a10 : ∀ p, I6 10 p = if p = W.n then v4 else I 10 p := fun p => (e6 10 p rfl).trans (upI_f.trans (by rw [show I5 10 p = I 10 p from (e5 10 p rfl).trans ((e4 10 p rfl).trans ((e3 10 p rfl).trans ((e2 10 p rfl).trans (e1 10 p rfl))))]))
    have a7 : ∀ p, mj_upI I6 7 W.n v5 7 p = if p = W.n then v5 else I 7 p := fun p => upI_f.trans (by rw [show I6 7 p = I 7 p from (e6 7 p rfl).trans ((e5 7 p rfl).trans ((e4 7 p rfl).trans ((e3 7 p rfl).trans ((e2 7 p rfl).trans (e1 7 p rfl)))))])
    have ao : ∀ c q, frm [] rdG c q = false → c ≠ 4 → c ≠ 5 → c ≠ 6 → c ≠ 7 → c ≠ 9 → c ≠ 10 → c ≠ 3 → mj_upI (mj_upI I6 7 W.n v5) 3 0 (nI (W.n + 1)) c q = I c q := fun c q hf n4 n5 n6 n7 n9 n10 n3 => by rw [upI_c n3, upI_c n7, e6 c q hf, upI_c n10, e5 c q hf, upI_c n6, e4 c q hf, upI_c n5, e3 c q hf, upI_c n9, e2 c q hf, (e1.to (cs' := []) (fs' := rdG) rfl rfl) c q hf, upI_c n4]
    refine ⟨upI_s, fun p hp => ?_, (ao 8 0 rfl (by decide) (by decide) (by decide) (by decide) (by decide) (by decide) (by decide)).trans m3, fun p hp => ?_, ?_, ?_, ?_⟩
    · have hp' : p < W.n + 1 := hp
      refine ⟨(a4 p).trans ?_, (a5 p).trans ?_, (a6 p).trans ?_, (a7 p).trans ?_⟩
      · show _ = nI (upN _ _ _ p)
        unfold upN
        by_cases c : p = W.n
        · rw [if_pos c, if_pos c]
        · rw [if_neg c, if_neg c]
          exact (m2 p (by omega)).1
      · show _ = nI (upN _ _ _ p)
        unfold upN
        by_cases c : p = W.n
        · rw [if_pos c, if_pos c, w2]
        · rw [if_neg c, if_neg c]
          exact (m2 p (by omega)).2.1
      · show _ = nI (upN _ _ _ p)
        unfold upN
        by_cases c : p = W.n
        · rw [if_pos c, if_pos c, w3]
        · rw [if_neg c, if_neg c]
          exact (m2 p (by omega)).2.2.1
      · show _ = nI (upN _ _ _ p)
        unfold upN
        by_cases c : p = W.n
        · rw [if_pos c, if_pos c, w5]
        · rw [if_neg c, if_neg c]
          exact (m2 p (by omega)).2.2.2
    · obtain ⟨b1, b2, b3⟩ := m4 p hp
      refine ⟨(a9 p).trans ?_, (a10 p).trans ?_, (ao 11 p rfl (by decide) (by decide) (by decide) (by decide) (by decide) (by decide) (by decide)).trans (b3.trans ?_)⟩
      · show _ = nI (cx (W.n + 1) (upN W.c W.n (tV b n (j + 1))) p)
        unfold cx upN at *
        by_cases c : p = W.n
        · rw [if_pos c, if_pos (by omega), if_pos c, w1]
        · rw [if_neg c, b1]
          by_cases c2 : p < W.n
          · rw [if_pos c2, if_pos (by omega), if_neg c]
          · rw [if_neg c2, if_neg (by omega)]
      · show _ = nI (cx (W.n + 1) (upN W.h W.n (tV b n (j + 4))) p)
        unfold cx upN at *
        by_cases c : p = W.n
        · rw [if_pos c, if_pos (by omega), if_pos c, w4]
        · rw [if_neg c, b2]
          by_cases c2 : p < W.n
          · rw [if_pos c2, if_pos (by omega), if_neg c]
          · rw [if_neg c2, if_neg (by omega)]
      · show mI (if p < W.n then W.m p else none) = mI (if p < W.n + 1 then (if p = W.n then none else W.m p) else none)
        by_cases c : p = W.n
        · rw [if_neg (by omega), if_pos (by omega), if_pos c]
        · by_cases c2 : p < W.n
          · rw [if_pos c2, if_pos (by omega), if_neg c]
          · rw [if_neg c2, if_neg (by omega)]
    · have o2 := ao 12 2 rfl (by decide) (by decide) (by decide) (by decide) (by decide) (by decide) (by decide)
      have o3 := ao 12 3 rfl (by decide) (by decide) (by decide) (by decide) (by decide) (by decide) (by decide)
      exact ⟨by rw [o2, o3]; exact m5.1, (ao 12 6 rfl (by decide) (by decide) (by decide) (by decide) (by decide) (by decide) (by decide)).trans m5.2⟩
    · have o2 := ao 12 4 rfl (by decide) (by decide) (by decide) (by decide) (by decide) (by decide) (by decide)
      have o3 := ao 12 5 rfl (by decide) (by decide) (by decide) (by decide) (by decide) (by decide) (by decide)
      rw [o2, o3]
      exact m6
    · have o1 := ao 12 1 rfl (by decide) (by decide) (by decide) (by decide) (by decide) (by decide) (by decide)
      have oS : ∀ q, _ = _ := fun q => ao 14 q rfl (by decide) (by decide) (by decide) (by decide) (by decide) (by decide) (by decide)
      exact ⟨o1.trans m7.1, fun i q hq => (oS i).trans (m7.2 i q hq)⟩
set_option maxHeartbeats 1000000 in
theorem c_46b (hP : PS 3 P) (hB : RB b n I) (hS : SC b n (.inr j) I) (hM : MCb W R0 I) (hW : W.ok) (k : ∀ I' st', Eqf FQb I I' → st' = bdS b n j W → SC b n st' I' → (∀ j', st' = .inr j' → MCb (bdW b n j W) R0 I') → Q (.inl none) (107, I', L, P)) : mj_ev (d + 8) 46 [.ref 29] (107, I, L, P) Q := by
  refine ⟨rfl, ?_⟩
  show mj_run (mj_ev (d + 7)) k46 Q (k46 0) [some (.ref 29), none, none] [] (107, I, L, P) 0 0
  obtain ⟨g1, g2⟩ := hS
  have hn10 : W.n ≤ 10 := hW.1.1
  have hu : ∀ q, some (tV b n (j + 1)) = some q → tK b n (j + 1) = 20 → q < 10000 := fun q e h => by cases e; exact (t_num h).2
  cases hq : bdS b n j W with
  | inl e =>
    have u9 : ∀ q, (if tK b n (j + 1) = 20 then some (tV b n (j + 1)) else none) = some q → q < 10000 := fun q e => by
      by_cases h : tK b n (j + 1) = 20
      · rw [if_pos h] at e
        exact hu q e h
      · rw [if_neg h] at e
        cases e
    have eq2 : ubS b n W.n W.m (if tK b n (j + 1) = 20 then some (tV b n (j + 1)) else none) (ubS b n W.n W.m none (.inr (j + 1))) = .inl e := by
      by_cases h : tK b n (j + 1) = 20
      · rw [if_pos h]
        exact hq
      · have h1 : ubS b n W.n W.m none (.inr (j + 1)) = .inl (1, j + 1) := if_pos h
        have h2 : bdS b n j W = .inl (1, j + 1) := by
          unfold bdS
          rw [h1]
          rfl
        rw [h1]
        rw [h2] at hq
        exact hq
    refine q_5 rfl ?_
    refine q_47 (mj_ev_mono _) [] rfl rfl rfl (by decide) rfl rfl rfl ?_
    refine c_39 (j := j + 1) hP hB g1 g2.1 (fun I1 e1 hT1 => ?_)
    have hS1 : SC b n (.inr (j + 1)) I1 := ⟨(e1 29 9 rfl).trans g1, hT1⟩
    have E1 : Eqf FQb I I1 := e1.to rfl rfl
    refine q_5 rfl ?_
    refine q_1 ?_
    refine q_47 (mj_ev_mono _) [_] rfl rfl rfl (by decide) rfl rfl rfl ?_
    refine c_47b (a := none) (st := .inr (j + 1)) hP (hB.qb E1) hS1 (hM.g (e1.to rfl rfl)) hW (fun q e => by cases e) (fun _ _ => rfl) (fun v1 I2 e2 hS2 hv2 => ?_)
    have E2 : Eqf FQb I I2 := E1.tr (e2.to rfl rfl)
    refine q_6 rfl rfl rfl ?_
    refine q_5 rfl ?_
    refine q_3 rfl ?_
    refine q_47 (mj_ev_mono _) [_] rfl rfl rfl (by decide) rfl rfl rfl ?_
    refine c_47b (a := if tK b n (j + 1) = 20 then some (tV b n (j + 1)) else none) hP (hB.qb E2) hS2 ((hM.g (e1.to rfl rfl)).g e2) hW u9 (fun j0 hj => by rw [if_pos (ubS_inr hj).2.1]; exact hv2 _ _ rfl hj) (fun v2 I3 e3 hS3 hv3 => ?_)
    rw [eq2] at hS3
    have h9 := hS3.2.2.1
    have z1 := hS3.1
    have z2 := hS3.2.1
    refine q_6 rfl rfl rfl ?_
    refine q_5 rfl ?_
    first | refine q_31E rfl (by decide) h9 ?_ | refine q_31 rfl (by decide) ?_
    first | refine q_neN0 (by omega) (fun hh => ?_) (fun hh => absurd hh (by omega)) | refine q_neI0 (fun hh => ?_) (fun hh => absurd (by omega) hh)
    refine q_25 ?_
    exact k I3 (.inl e) (E2.tr (e3.to rfl rfl)) hq.symm hS3 (fun j' e => by cases e)
  | inr j' =>
    obtain ⟨ej, q1, q2, q3, q4, q5, q6⟩ := bdS_inr hq
    have h20 := q1 1 (by omega) (by omega)
    have u1 := t_num h20
    obtain ⟨j2, y1, y2⟩ := ubS_st hq
    refine q_5 rfl ?_
    refine q_47 (mj_ev_mono _) [] rfl rfl rfl (by decide) rfl rfl rfl ?_
    refine c_39 (j := j + 1) hP hB g1 g2.1 (fun I1 e1 hT1 => ?_)
    have hS1 : SC b n (.inr (j + 1)) I1 := ⟨(e1 29 9 rfl).trans g1, hT1⟩
    have E1 : Eqf FQb I I1 := e1.to rfl rfl
    refine q_5 rfl ?_
    refine q_1 ?_
    refine q_47 (mj_ev_mono _) [_] rfl rfl rfl (by decide) rfl rfl rfl ?_
    refine c_47b (a := none) (st := .inr (j + 1)) hP (hB.qb E1) hS1 (hM.g (e1.to rfl rfl)) hW (fun q e => by cases e) (fun _ _ => rfl) (fun v1 I2 e2 hS2 hv2 => ?_)
    have E2 : Eqf FQb I I2 := E1.tr (e2.to rfl rfl)
    have w1 := hv2 _ _ rfl y1
    subst w1
    refine q_6 rfl rfl rfl ?_
    refine q_5 rfl ?_
    refine q_3 rfl ?_
    refine q_47 (mj_ev_mono _) [_] rfl rfl rfl (by decide) rfl rfl rfl ?_
    refine c_47b (a := some (tV b n (j + 1))) hP (hB.qb E2) hS2 ((hM.g (e1.to rfl rfl)).g e2) hW (fun q e => by cases e; exact u1.2) (fun j0 hj => rfl) (fun v2 I3 e3 hS3 hv3 => ?_)
    have w2 := hv3 _ _ y1 hq
    rw [show j2 = j + 2 by have := (ubS_inr y1).1; omega] at w2
    subst w2
    have hS3' : SC b n (bdS b n j W) I3 := hS3
    rw [hq] at hS3'
    have hM3 := ((hM.g (e1.to rfl rfl)).g e2).g e3
    have h9 := hS3'.1
    refine q_6 rfl rfl rfl ?_
    refine q_5 rfl ?_
    first | refine q_31E rfl (by decide) h9 ?_ | refine q_31 rfl (by decide) ?_
    first | refine q_neN0 (by omega) (fun hh => absurd hh (by omega)) (fun hh => ?_) | refine q_neI0 (fun hh => absurd hh (by omega)) (fun hh => ?_)
    refine q_3 rfl ?_
    first | refine q_ltN0 (by omega) ?_ | refine q_ltI0 (fun hh => absurd hh (by omega)) (fun hh => ?_)
    refine q_3 rfl ?_
    first | refine q_ltN0 (by omega) ?_ | refine q_ltI0 (fun hh => absurd hh (by omega)) (fun hh => ?_)
    refine q_5 rfl ?_
    refine q_33 rfl (by decide) (hP _ _ _ rfl) ?_
    refine q_33 rfl (by decide) (hP _ _ _ rfl) ?_
    refine q_33 rfl (by decide) (hP _ _ _ rfl) ?_
    refine q_3 rfl ?_
    refine q_3 rfl ?_
    refine q_42 _ rfl (by decide) rfl (by show _ < 10; omega) (by decide) ?_
    refine q_5 rfl ?_
    refine q_33 rfl (by decide) (hP _ _ _ rfl) ?_
    refine q_33 rfl (by decide) (hP _ _ _ rfl) ?_
    refine q_33 rfl (by decide) (hP _ _ _ rfl) ?_
    refine q_3 rfl ?_
    refine q_3 rfl ?_
    refine q_42 _ rfl (by decide) rfl (by show _ < 10; omega) (by decide) ?_
    refine q_25 ?_
    refine k _ (.inr j') (((E2.tr (e3.to rfl rfl)).up rfl).up rfl) hq.symm (SC.fr (I := I3) hS3' (fun q hq => by rcases hq with rfl | rfl | rfl | rfl | rfl | rfl | rfl <;> rfl)) (fun j6 e => ?_)
    obtain ⟨a1, a2, a3, a4, a5, a6, a7⟩ := hM3
    have aa : ∀ q, mj_upI (mj_upI I3 11 (tV b n (j + 1)) (nI (tV b n (j + 2)))) 11 (tV b n (j + 2)) (nI (tV b n (j + 1))) 11 q = if q = tV b n (j + 2) then nI (tV b n (j + 1)) else if q = tV b n (j + 1) then nI (tV b n (j + 2)) else I3 11 q := fun q => upI_f.trans (by rw [upI_f])
    refine ⟨a1, a2, a3, fun p hp => ?_, a5, a6, a7⟩
    obtain ⟨b1, b2, b3⟩ := a4 p hp
    refine ⟨b1, b2, (aa p).trans ?_⟩
    show _ = mI (if p < W.n then (if p = tV b n (j + 2) then some (tV b n (j + 1)) else if p = tV b n (j + 1) then some (tV b n (j + 2)) else W.m p) else none)
    unfold mx at b3
    by_cases c1 : p = tV b n (j + 2)
    · rw [if_pos c1, if_pos (by omega), if_pos c1]
      rfl
    · rw [if_neg c1]
      by_cases c2 : p = tV b n (j + 1)
      · rw [if_pos c2, if_pos (by omega), if_neg c1, if_pos c2]
        rfl
      · rw [if_neg c2, b3]
        by_cases c3 : p < W.n
        · rw [if_pos c3, if_pos c3, if_neg c1, if_neg c2]
        · rw [if_neg c3, if_neg c3]
end C
