/-! the class reads a rule's line (what is told) -/
section C
variable {I : mj_I} {L : mj_L} {P : mj_P} {Q : mj_Q} {d n r j s l wi u v : Nat} {b : Nat → Nat} {st : ST} {lo hi M : Nat} {W : NR} {R0 : RP}
theorem ruleXb_ap {y z : Int32} {o : Option RP} (h : ruleXb R0 y z lo hi o) (R : RP) : ruleXb (R0 ++ R) y z lo hi o := by
  cases o with
  | none => exact h
  | some R1 =>
    obtain ⟨k, h1, h2, h3, h4, h5, h6⟩ := h
    refine ⟨k, h1, h2, by rw [List.length_append]; omega, fun i q hq => ?_, h5, h6⟩
    have := (List.getElem?_eq_some_iff.mp (h4 i q hq)).1
    rw [List.getElem?_append_left this]
    exact h4 i q hq
set_option maxHeartbeats 2000000 in
theorem c_48b (hP : PS 3 P) (hB : RB b n I) (hS : SC b n (.inr j) I) (hM : MCb W R0 I) (hjn : j ≤ n) (hR0 : R0.length ≤ j) (hk : tK b n j = 5 ∨ tK b n j = 6) (hok : ∃ j', (ruS b n W j).1 = .inr j') (k : ∀ I', Eqf FQb I I' → SC b n (ruS b n W j).1 I' → (∀ j', (ruS b n W j).1 = .inr j' → ∃ R, MCb (ruS b n W j).2 (R0 ++ R) I' ∧ (R0 ++ R).length ≤ j') → Q (.inl none) (107, I', L, P)) : mj_ev (d + 61) 48 [.ref 29] (107, I, L, P) Q := by
  refine ⟨rfl, ?_⟩
  show mj_run (mj_ev (d + 60)) k48 Q (k48 0) [some (.ref 29), none, none] [] (107, I, L, P) 0 0
  have hn7 := hB.2.1
  obtain ⟨g1, g2⟩ := hS
  have g6 := g2.kd
  obtain ⟨m1, m2, m3, m4, m5, m6, m7⟩ := hM
  have hzn0 := m7.sz
  have nj : j + 1 ≤ n := by
    have : j ≠ n := fun z => by rw [z, tK_n] at hk; omega
    omega
  by_cases k5 : tK b n j = 5
  · rw [k5] at g6
    have hzn : mj_upI I 29 10 (nI 64513) 12 1 = nI R0.length := hzn0
    cases ha : W.1.al with
    | some R1 =>
      have hru : ruS b n W j = (.inl (5, j), W) := (if_pos k5).trans (if_pos (by rw [ha]; exact fun z => by cases z))
      obtain ⟨j', hj⟩ := hok
      rw [hru] at hj
      cases hj
    | none =>
      rw [ha] at m5
      obtain ⟨a1, a2⟩ := m5.1
      have hru := (if_pos k5).trans (if_neg (fun z => z ha)) |> (fun h : ruS b n W j = (match EX b n 0 6 (j + 1) with
        | .inl e => (.inl e, W)
        | .inr q => (.inr q.1, W.sal q.2)) => h)
      cases ex : EX b n 0 6 (j + 1) with
      | inl e =>
        rw [ex] at hru
        obtain ⟨j', hj⟩ := hok
        rw [hru] at hj
        cases hj
      | inr q =>
        obtain ⟨j2, R⟩ := q
        rw [ex] at hru
        obtain ⟨y1, y2, y3, y4⟩ := EX_ok ex
        have j2n : j2 ≤ n := by
          apply Nat.not_lt.mp
          intro q
          exact y3 n nj q tK_n
        have Rp : 0 < R.length := by
          cases R with
          | nil => exact absurd y4 (by show ¬ 0 = 1; omega)
          | cons p R => exact Nat.succ_pos _
        have ln : (R0 ++ R).length = R0.length + R.length := List.length_append
        rw [hru] at k
        refine q_5 rfl ?_
        first | refine q_31E rfl (by decide) g6 ?_ | refine q_31 rfl (by decide) ?_
        refine q_0 ?_
        refine q_neN (by omega) (by omega) (fun hh => absurd hh (by omega)) (fun hh => ?_)
        refine q_0 ?_
        refine q_23 ?_
        refine q_6 rfl rfl rfl ?_
        refine q_3 rfl ?_
        first | refine q_eqN0 (by omega) (fun hh => absurd hh (by omega)) (fun hh => ?_) | refine q_eqI0 (fun hh => absurd hh (by omega)) (fun hh => ?_)
        refine q_5 rfl ?_
        refine q_33 rfl (by decide) (hP _ _ _ rfl) ?_
        refine q_33 rfl (by decide) (hP _ _ _ rfl) ?_
        refine q_47 (mj_ev_mono _) [] rfl rfl rfl (by decide) rfl rfl rfl ?_
        refine c_56bF a1 a2 ?_
        first | refine q_eqN0 (by omega) (fun hh => ?_) (fun hh => absurd hh (by omega)) | refine q_eqI0 (fun hh => ?_) (fun hh => absurd (by omega) hh)
        refine q_5 rfl ?_
        refine q_3 rfl ?_
        first | refine q_eqN0 (by omega) (fun hh => absurd hh (by omega)) (fun hh => ?_) | refine q_eqI0 (fun hh => absurd hh (by omega)) (fun hh => ?_)
        refine q_0 ?_
        refine q_23 ?_
        refine q_34 rfl (by decide) ?_
        refine q_5 rfl ?_
        refine q_33 rfl (by decide) (hP _ _ _ rfl) ?_
        refine q_33 rfl (by decide) (hP _ _ _ rfl) ?_
        first | refine q_31E rfl (by decide) hzn ?_ | refine q_31 rfl (by decide) ?_
        refine q_6 rfl rfl rfl ?_
        refine q_5 rfl ?_
        refine q_47 (mj_ev_mono _) [] rfl rfl rfl (by decide) rfl rfl rfl ?_
        refine c_39 (j := j + 1) hP (hB.fr (fun _ => rfl) rfl) g1 g2.1 (fun I2 e2 hT => ?_)
        have E2 : Eqf FQb I I2 := (Eqf.rf.up rfl).tr (e2.to rfl rfl)
        have h10 : I2 29 10 = nI 64513 := (e2 29 10 rfl).trans upI_s
        have hz2 : SZb R0 I2 := ⟨(e2 12 1 rfl).trans m7.1, fun i q hq => (e2 14 i rfl).trans (m7.2 i q hq)⟩
        refine q_5 rfl ?_
        refine q_0 ?_
        refine q_0 ?_
        refine q_47 (mj_ev_mono _) [_, _] rfl rfl rfl (by decide) rfl rfl rfl ?_
        refine ((exb (d := d) (n := n) (b := b) (L := L) (lo := 0) (hi := 6) (M := 64513) hP (by omega) (by decide) mskA 8500).1 0 (by omega) 0 (by omega) (j + 1) R0 I2 _ (d + 60) (by omega) nj (by omega) (hB.qb E2) h10 ⟨(e2 29 9 rfl).trans g1, hT⟩ hz2).2 j2 R ex (fun I3 e3 q1 q2 => ?_)
        have E3 : Eqf FQb I I3 := E2.tr (e3.to rfl rfl)
        have q2n := q2.sz
        refine q_3 rfl ?_
        first | refine q_eqN0 (by omega) (fun hh => absurd hh (by omega)) (fun hh => ?_) | refine q_eqI0 (fun hh => absurd hh (by omega)) (fun hh => ?_)
        refine q_5 rfl ?_
        refine q_33 rfl (by decide) (hP _ _ _ rfl) ?_
        refine q_33 rfl (by decide) (hP _ _ _ rfl) ?_
        refine q_3 rfl ?_
        refine q_47 (mj_ev_mono _) [_] rfl rfl rfl (by decide) rfl rfl rfl ?_
        refine c_58b hP q2 y4 (by omega) ((e3 12 6 rfl).trans ((e2 12 6 rfl).trans m5.2)) (fun I5 e5 f2 f3 f6 => ?_)
        refine q_23 ?_
        refine q_25 ?_
        refine k I5 (E3.tr (e5.to rfl rfl)) (q1.fr (fun q hq => by rcases hq with rfl | rfl | rfl | rfl | rfl | rfl | rfl <;> exact e5 29 _ rfl)) (fun j' e => ?_)
        cases e
        refine ⟨R, ⟨(e5 3 0 rfl).trans ((e3 3 0 rfl).trans ((e2 3 0 rfl).trans m1)), fun p hp => ?_, (e5 8 0 rfl).trans ((e3 8 0 rfl).trans ((e2 8 0 rfl).trans m3)), fun p hp => ?_, ⟨?_, f6⟩, ?_, ⟨(e5 12 1 rfl).trans q2.1, fun i q hq => (e5 14 i rfl).trans (q2.2 i q hq)⟩⟩, by omega⟩
        · obtain ⟨b1, b2, b3, b4⟩ := m2 p hp
          exact ⟨(e5 4 p rfl).trans ((e3 4 p rfl).trans ((e2 4 p rfl).trans b1)), (e5 5 p rfl).trans ((e3 5 p rfl).trans ((e2 5 p rfl).trans b2)), (e5 6 p rfl).trans ((e3 6 p rfl).trans ((e2 6 p rfl).trans b3)), (e5 7 p rfl).trans ((e3 7 p rfl).trans ((e2 7 p rfl).trans b4))⟩
        · obtain ⟨b1, b2, b3⟩ := m4 p hp
          exact ⟨(e5 9 p rfl).trans ((e3 9 p rfl).trans ((e2 9 p rfl).trans b1)), (e5 10 p rfl).trans ((e3 10 p rfl).trans ((e2 10 p rfl).trans b2)), (e5 11 p rfl).trans ((e3 11 p rfl).trans ((e2 11 p rfl).trans b3))⟩
        · exact ⟨R0.length, f2, f3, Nat.le_of_eq ln.symm, fun i q hq => by rw [List.getElem?_append_right (by omega), Nat.add_sub_cancel_left]; exact hq, y4, Rp⟩
        · have o4 := (e5 12 4 rfl).trans ((e3 12 4 rfl).trans (e2 12 4 rfl))
          have o5 := (e5 12 5 rfl).trans ((e3 12 5 rfl).trans (e2 12 5 rfl))
          rw [o4, o5]
          exact ruleXb_ap m6 R
  · have k6 : tK b n j = 6 := by omega
    rw [k6] at g6
    have hzn : mj_upI I 29 10 (nI 462880) 12 1 = nI R0.length := hzn0
    cases ha : W.1.li with
    | some R1 =>
      have hru : ruS b n W j = (.inl (5, j), W) := (if_neg k5).trans (if_pos (by rw [ha]; exact fun z => by cases z))
      obtain ⟨j', hj⟩ := hok
      rw [hru] at hj
      cases hj
    | none =>
      rw [ha] at m6
      obtain ⟨a1, a2⟩ := m6
      have hru := (if_neg k5).trans (if_neg (fun z => z ha)) |> (fun h : ruS b n W j = (match EX b n 6 10 (j + 1) with
        | .inl e => (.inl e, W)
        | .inr q => (.inr q.1, W.sli q.2)) => h)
      cases ex : EX b n 6 10 (j + 1) with
      | inl e =>
        rw [ex] at hru
        obtain ⟨j', hj⟩ := hok
        rw [hru] at hj
        cases hj
      | inr q =>
        obtain ⟨j2, R⟩ := q
        rw [ex] at hru
        obtain ⟨y1, y2, y3, y4⟩ := EX_ok ex
        have j2n : j2 ≤ n := by
          apply Nat.not_lt.mp
          intro q
          exact y3 n nj q tK_n
        have Rp : 0 < R.length := by
          cases R with
          | nil => exact absurd y4 (by show ¬ 0 = 1; omega)
          | cons p R => exact Nat.succ_pos _
        have ln : (R0 ++ R).length = R0.length + R.length := List.length_append
        rw [hru] at k
        refine q_5 rfl ?_
        first | refine q_31E rfl (by decide) g6 ?_ | refine q_31 rfl (by decide) ?_
        refine q_0 ?_
        refine q_neN (by omega) (by omega) (fun hh => ?_) (fun hh => absurd hh (by omega))
        refine q_0 ?_
        refine q_6 rfl rfl rfl ?_
        refine q_3 rfl ?_
        first | refine q_eqN0 (by omega) (fun hh => ?_) (fun hh => absurd hh (by omega)) | refine q_eqI0 (fun hh => ?_) (fun hh => absurd (by omega) hh)
        refine q_5 rfl ?_
        refine q_33 rfl (by decide) (hP _ _ _ rfl) ?_
        refine q_33 rfl (by decide) (hP _ _ _ rfl) ?_
        refine q_47 (mj_ev_mono _) [] rfl rfl rfl (by decide) rfl rfl rfl ?_
        refine c_57bF a1 a2 ?_
        first | refine q_eqN0 (by omega) (fun hh => ?_) (fun hh => absurd hh (by omega)) | refine q_eqI0 (fun hh => ?_) (fun hh => absurd (by omega) hh)
        refine q_5 rfl ?_
        refine q_3 rfl ?_
        first | refine q_eqN0 (by omega) (fun hh => ?_) (fun hh => absurd hh (by omega)) | refine q_eqI0 (fun hh => ?_) (fun hh => absurd (by omega) hh)
        refine q_0 ?_
        refine q_34 rfl (by decide) ?_
        refine q_5 rfl ?_
        refine q_33 rfl (by decide) (hP _ _ _ rfl) ?_
        refine q_33 rfl (by decide) (hP _ _ _ rfl) ?_
        first | refine q_31E rfl (by decide) hzn ?_ | refine q_31 rfl (by decide) ?_
        refine q_6 rfl rfl rfl ?_
        refine q_5 rfl ?_
        refine q_47 (mj_ev_mono _) [] rfl rfl rfl (by decide) rfl rfl rfl ?_
        refine c_39 (j := j + 1) hP (hB.fr (fun _ => rfl) rfl) g1 g2.1 (fun I2 e2 hT => ?_)
        have E2 : Eqf FQb I I2 := (Eqf.rf.up rfl).tr (e2.to rfl rfl)
        have h10 : I2 29 10 = nI 462880 := (e2 29 10 rfl).trans upI_s
        have hz2 : SZb R0 I2 := ⟨(e2 12 1 rfl).trans m7.1, fun i q hq => (e2 14 i rfl).trans (m7.2 i q hq)⟩
        refine q_5 rfl ?_
        refine q_0 ?_
        refine q_0 ?_
        refine q_47 (mj_ev_mono _) [_, _] rfl rfl rfl (by decide) rfl rfl rfl ?_
        refine ((exb (d := d) (n := n) (b := b) (L := L) (lo := 6) (hi := 10) (M := 462880) hP (by omega) (by decide) mskL 8500).1 0 (by omega) 0 (by omega) (j + 1) R0 I2 _ (d + 60) (by omega) nj (by omega) (hB.qb E2) h10 ⟨(e2 29 9 rfl).trans g1, hT⟩ hz2).2 j2 R ex (fun I3 e3 q1 q2 => ?_)
        have E3 : Eqf FQb I I3 := E2.tr (e3.to rfl rfl)
        have q2n := q2.sz
        refine q_3 rfl ?_
        first | refine q_eqN0 (by omega) (fun hh => ?_) (fun hh => absurd hh (by omega)) | refine q_eqI0 (fun hh => ?_) (fun hh => absurd (by omega) hh)
        refine q_5 rfl ?_
        refine q_33 rfl (by decide) (hP _ _ _ rfl) ?_
        refine q_33 rfl (by decide) (hP _ _ _ rfl) ?_
        refine q_3 rfl ?_
        refine q_47 (mj_ev_mono _) [_] rfl rfl rfl (by decide) rfl rfl rfl ?_
        refine c_59b (u := R0.length) q2n ?_
        refine q_25 ?_
        refine k _ ((E3.up rfl).up rfl) (q1.fr (fun q hq => by rcases hq with rfl | rfl | rfl | rfl | rfl | rfl | rfl <;> rfl)) (fun j' e => ?_)
        cases e
        refine ⟨R, ⟨(e3 3 0 rfl).trans ((e2 3 0 rfl).trans m1), fun p hp => ?_, (e3 8 0 rfl).trans ((e2 8 0 rfl).trans m3), fun p hp => ?_, ⟨?_, (e3 12 6 rfl).trans ((e2 12 6 rfl).trans m5.2)⟩, ?_, ⟨q2.1, q2.2⟩⟩, by omega⟩
        · obtain ⟨b1, b2, b3, b4⟩ := m2 p hp
          exact ⟨(e3 4 p rfl).trans ((e2 4 p rfl).trans b1), (e3 5 p rfl).trans ((e2 5 p rfl).trans b2), (e3 6 p rfl).trans ((e2 6 p rfl).trans b3), (e3 7 p rfl).trans ((e2 7 p rfl).trans b4)⟩
        · obtain ⟨b1, b2, b3⟩ := m4 p hp
          exact ⟨(e3 9 p rfl).trans ((e2 9 p rfl).trans b1), (e3 10 p rfl).trans ((e2 10 p rfl).trans b2), (e3 11 p rfl).trans ((e2 11 p rfl).trans b3)⟩
        · have o4 := (e3 12 2 rfl).trans (e2 12 2 rfl)
          have o5 := (e3 12 3 rfl).trans (e2 12 3 rfl)
          show ruleXb (R0 ++ R) (I3 12 2) (I3 12 3) 0 6 W.1.al
          rw [o4, o5]
          exact ruleXb_ap m5.1 R
        · exact ⟨R0.length, rfl, by rw [← ln]; rfl, Nat.le_of_eq ln.symm, fun i q hq => by rw [List.getElem?_append_right (by omega), Nat.add_sub_cancel_left]; exact hq, y4, Rp⟩
end C
