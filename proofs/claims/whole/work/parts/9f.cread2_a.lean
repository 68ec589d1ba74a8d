/-! the class reads a text (the draft) -/
def fcS : ST → Nat
  | .inl e => e.1
  | .inr _ => 0
theorem lnS_ru {b : Nat → Nat} {n j : Nat} {W : NR} (h : tK b n j = 5 ∨ tK b n j = 6) : lnS b n W j = (ndS b n (ruS b n W j).1, (ruS b n W j).2) := by
  unfold ruS
  by_cases k5 : tK b n j = 5
  · rw [if_pos k5]
    by_cases ha : W.1.al ≠ none
    · rw [if_pos ha, lnS_5t k5 ha]
      rfl
    · have ha' : W.1.al = none := Classical.not_not.mp ha
      rw [if_neg ha, lnS_5 k5 ha']
      cases EX b n 0 6 (j + 1) <;> rfl
  · have k6 : tK b n j = 6 := by omega
    rw [if_neg k5]
    by_cases ha : W.1.li ≠ none
    · rw [if_pos ha, lnS_6t k6 ha]
      rfl
    · have ha' : W.1.li = none := Classical.not_not.mp ha
      rw [if_neg ha, lnS_6 k6 ha']
      cases EX b n 6 10 (j + 1) <;> rfl
section C
variable {I : mj_I} {L : mj_L} {P : mj_P} {Q : mj_Q} {d n r j s t l wi u v : Nat} {b : Nat → Nat} {st : ST} {W : NR} {R0 : RP}
def FRa : Nat → Nat → Bool := frm [17, 18, 19, 20, 22, 23, 24, 27] ((16, 0) :: (21, 0) :: (25, 1) :: (25, 2) :: (25, 3) :: (25, 4) :: (25, 5) :: (25, 6) :: (29, 10) :: (29, 3) :: rdG)
set_option maxHeartbeats 2000000 in
theorem c_37a {N : Nat} (hP : PS t P) (hb : ∀ i, i < N → I 1 i = sbt (b i) ∧ b i < 256) (hN : N ≤ 700) (k : ∀ I' P', PS 16 P' → Eqf FRa I I' → SC b N (rdS b N).1 I' → (∀ j', (rdS b N).1 = .inr j' → (rdS b N).2.ok ∧ ∃ R0, MCa (rdS b N).2 R0 I' ∧ R0.length ≤ 700) → Q (.inl (some (.int (nI (fcS (rdS b N).1))))) (107, I', L, P')) : mj_ev (d + 62) 37 [.ref 29, .int (nI N), .ref 16] (107, I, L, P) Q := by
  refine ⟨rfl, ?_⟩
  show mj_run (mj_ev (d + 61)) k37 Q (k37 0) [some (.ref 29), some (.int (nI N)), some (.ref 16), none] [] (107, I, L, P) 0 0
  have hP' : PS 16 (mj_upP P 29 2 (some 16)) := hP.tld
  generalize hPP : mj_upP P 29 2 (some 16) = P' at hP'
  have hP := hP'
  have lp : ∀ f j W R0 I' turn, N < f + j → Eqf FRa I I' → RB b N I' → SC b N (.inr j) I' → MCa W R0 I' → W.ok → j ≤ N → R0.length ≤ j → turn ≤ j → lnsS b N f (.inr j, W) = rdS b N → mj_run (mj_ev (d + 61)) k37 Q (k37 46) [some (.ref 29), some (.int (nI N)), some (.ref 16), some (.int (nI turn))] [] (107, I', L, P') 0 0 := by
    intro f
    induction f with
    | zero => intro j W R0 I' turn h _ _ _ _ _ hj; omega
    | succ f ih =>
      intro j W R0 I' turn hf E hB hS hM hW hj hR0 ht hr
      have hS' := hS
      obtain ⟨g1, g2⟩ := hS
      have g6 := g2.kd
      have kl := tK_lt (b := b) (n := N) (j := j) (fun i hi => (hB.1 i hi).2)
      rw [lnsS_r] at hr
      by_cases k21 : tK b N j = 21
      · rw [if_pos k21] at hr
        rw [← hr] at k
        rw [k21] at g6
        have out : mj_run (mj_ev (d + 61)) k37 Q (k37 140) [some (.ref 29), some (.int (nI N)), some (.ref 16), some (.int (nI turn))] [] (107, I', L, P') 0 0 := by
          refine q_5 rfl ?_
          first | refine q_31E rfl (by decide) g1 ?_ | refine q_31 rfl (by decide) ?_
          refine q_26 ?_
          exact k I' P' hP' E hS' (fun j' _ => ⟨hW, R0, hM, by omega⟩)
        by_cases c7 : 700 ≤ turn
        · refine q_3 rfl ?_
          refine q_0 ?_
          refine q_geN (by omega) (by omega) (fun hh => ?_) (fun hh => absurd hh (by omega))
          exact out
        · refine q_3 rfl ?_
          refine q_0 ?_
          refine q_geN (by omega) (by omega) (fun hh => absurd hh (by omega)) (fun hh => ?_)
          refine q_5 rfl ?_
          first | refine q_31E rfl (by decide) g1 ?_ | refine q_31 rfl (by decide) ?_
          first | refine q_neN0 (by omega) (fun hh => absurd hh (by omega)) (fun hh => ?_) | refine q_neI0 (fun hh => absurd hh (by omega)) (fun hh => ?_)
          refine q_5 rfl ?_
          first | refine q_31E rfl (by decide) g6 ?_ | refine q_31 rfl (by decide) ?_
          refine q_0 ?_
          refine q_eqN (by omega) (by omega) (fun hh => ?_) (fun hh => absurd hh (by omega))
          exact out
      · rw [if_neg k21] at hr
        have jN : j < N := by
          have : j ≠ N := fun z => k21 (by rw [z]; exact tK_n)
          omega
        -- behind a line
        have tail : ∀ st1 I1, Eqf FRa I I1 → SC b N st1 I1 → (lnS b N W j).1 = ndS b N st1 → (∀ j', st1 = .inr j' → ∃ R, MCa (lnS b N W j).2 (R0 ++ R) I1 ∧ (R0 ++ R).length ≤ j') → RB b N I1 → mj_run (mj_ev (d + 61)) k37 Q (k37 128) [some (.ref 29), some (.int (nI N)), some (.ref 16), some (.int (nI turn))] [] (107, I1, L, P') 0 0 := by
          intro st1 I1 E1 hS1 hl1 hM1 hB1
          refine q_5 rfl ?_
          refine q_0 ?_
          refine q_47 (mj_ev_mono _) [_] rfl rfl rfl (by decide) rfl rfl rfl ?_
          refine c_43 (x := 59) (Or.inr rfl) hP' hB1 hS1 (fun I2 e2 hS2 => ?_)
          first | refine q_inc rfl rfl rfl ?_ | refine q_9 rfl rfl rfl ?_
          refine q_23 ?_
          skip
          rw [ovS_59, ← hl1] at hS2
          have E2 : Eqf FRa I I2 := E1.tr (e2.to rfl rfl)
          cases hs : (lnS b N W j).1 with
          | inl e =>
            have hs2 : lnS b N W j = (.inl e, (lnS b N W j).2) := by rw [← hs]
            rw [hs2, lnsS_l] at hr
            rw [hs] at hS2
            rw [← hr] at k
            have hS2' := hS2
            obtain ⟨w1, w2, w3, w4, w5⟩ := hS2
            have out : mj_run (mj_ev (d + 61)) k37 Q (k37 140) [some (.ref 29), some (.int (nI N)), some (.ref 16), some (.int (nI (turn + 1)))] [] (107, I2, L, P') 0 0 := by
              refine q_5 rfl ?_
              first | refine q_31E rfl (by decide) w3 ?_ | refine q_31 rfl (by decide) ?_
              refine q_26 ?_
              exact k I2 P' hP' E2 hS2' (fun j' z => by cases z)
            by_cases c7 : 700 ≤ turn + 1
            · refine q_3 rfl ?_
              refine q_0 ?_
              refine q_geN (by omega) (by omega) (fun hh => ?_) (fun hh => absurd hh (by omega))
              exact out
            · refine q_3 rfl ?_
              refine q_0 ?_
              refine q_geN (by omega) (by omega) (fun hh => absurd hh (by omega)) (fun hh => ?_)
              refine q_5 rfl ?_
              first | refine q_31E rfl (by decide) w3 ?_ | refine q_31 rfl (by decide) ?_
              first | refine q_neN0 (by omega) (fun hh => ?_) (fun hh => absurd hh (by omega)) | refine q_neI0 (fun hh => ?_) (fun hh => absurd (by omega) hh)
              exact out
          | inr j2 =>
            have hs2 : lnS b N W j = (.inr j2, (lnS b N W j).2) := by rw [← hs]
            rw [hs] at hS2
            obtain ⟨o1, o2, o3, o4⟩ := lnS_ok (b := b) (n := N) (W := W) (j := j) hN hj hW hs
            rw [hs] at hl1
            obtain ⟨j1, z1, z2, z3⟩ := ndS_inr hl1.symm
            obtain ⟨R, y1, y2⟩ := hM1 j1 z1
            rw [hs2] at hr
            exact ih j2 _ (R0 ++ R) I2 (turn + 1) (by omega) E2 (hB1.fr (fun q => e2 1 q rfl) (e2 29 3 rfl)) hS2 (y1.g e2) o4 o2 (by omega) (by omega) hr
        have toE : ∀ {I1}, Eqf FQa I' I1 → Eqf FRa I I1 ∧ RB b N I1 := fun {I1} e => ⟨E.tr (e.to rfl rfl), hB.qa e⟩
        by_cases k3 : tK b N j ≤ 3
        · refine q_3 rfl ?_
          refine q_0 ?_
          refine q_geN (by omega) (by omega) (fun hh => absurd hh (by omega)) (fun hh => ?_)
          refine q_5 rfl ?_
          first | refine q_31E rfl (by decide) g1 ?_ | refine q_31 rfl (by decide) ?_
          first | refine q_neN0 (by omega) (fun hh => absurd hh (by omega)) (fun hh => ?_) | refine q_neI0 (fun hh => absurd hh (by omega)) (fun hh => ?_)
          refine q_5 rfl ?_
          first | refine q_31E rfl (by decide) g6 ?_ | refine q_31 rfl (by decide) ?_
          refine q_0 ?_
          refine q_eqN (by omega) (by omega) (fun hh => absurd hh (by omega)) (fun hh => ?_)
          refine q_5 rfl ?_
          first | refine q_31E rfl (by decide) g6 ?_ | refine q_31 rfl (by decide) ?_
          refine q_0 ?_
          refine q_gtN (by omega) (by omega) (fun hh => absurd hh (by omega)) (fun hh => ?_)
          refine q_5 rfl ?_
          refine q_47 (mj_ev_mono _) [] rfl rfl rfl (by decide) rfl rfl rfl ?_
          refine c_44a (d := d + 53) hP' hB hS' hM hW (fun I1 st1 e1 q1 q2 q3 => ?_)
          refine q_23 ?_
          refine tail st1 I1 (toE e1).1 q2 ?_ (fun j' hj' => ?_) (toE e1).2
          · rw [lnS_3 k3, q1]
            split <;> rfl
          · have n10 : W.n ≠ 10 := fun z => by rw [q1, if_pos z] at hj'; cases hj'
            refine ⟨[], ?_, ?_⟩
            · rw [lnS_3 k3, if_neg n10, List.append_nil]
              exact q3 j' hj'
            · rw [List.append_nil]
              rw [q1, if_neg n10] at hj'
              have := (skS_inr hj').1
              omega
        · by_cases k4 : tK b N j = 4
          · refine q_3 rfl ?_
            refine q_0 ?_
            refine q_geN (by omega) (by omega) (fun hh => absurd hh (by omega)) (fun hh => ?_)
            refine q_5 rfl ?_
            first | refine q_31E rfl (by decide) g1 ?_ | refine q_31 rfl (by decide) ?_
            first | refine q_neN0 (by omega) (fun hh => absurd hh (by omega)) (fun hh => ?_) | refine q_neI0 (fun hh => absurd hh (by omega)) (fun hh => ?_)
            refine q_5 rfl ?_
            first | refine q_31E rfl (by decide) g6 ?_ | refine q_31 rfl (by decide) ?_
            refine q_0 ?_
            refine q_eqN (by omega) (by omega) (fun hh => absurd hh (by omega)) (fun hh => ?_)
            refine q_5 rfl ?_
            first | refine q_31E rfl (by decide) g6 ?_ | refine q_31 rfl (by decide) ?_
            refine q_0 ?_
            refine q_gtN (by omega) (by omega) (fun hh => ?_) (fun hh => absurd hh (by omega))
            refine q_5 rfl ?_
            first | refine q_31E rfl (by decide) g6 ?_ | refine q_31 rfl (by decide) ?_
            refine q_0 ?_
            refine q_neN (by omega) (by omega) (fun hh => absurd hh (by omega)) (fun hh => ?_)
            refine q_5 rfl ?_
            refine q_47 (mj_ev_mono _) [] rfl rfl rfl (by decide) rfl rfl rfl ?_
            refine c_46a (d := d + 53) hP' hB hS' hM hW (fun I1 st1 e1 q1 q2 q3 => ?_)
            refine q_23 ?_
            refine tail st1 I1 (toE e1).1 q2 ?_ (fun j' hj' => ?_) (toE e1).2
            · rw [lnS_4 k4, q1]
            · refine ⟨[], ?_, ?_⟩
              · rw [lnS_4 k4, List.append_nil]
                exact q3 j' hj'
              · rw [List.append_nil]
                rw [q1] at hj'
                have := (bdS_inr hj').1
                omega
          · by_cases k56 : tK b N j = 5 ∨ tK b N j = 6
            · have hru := lnS_ru (W := W) k56
              by_cases k5 : tK b N j = 5
              · refine q_3 rfl ?_
                refine q_0 ?_
                refine q_geN (by omega) (by omega) (fun hh => absurd hh (by omega)) (fun hh => ?_)
                refine q_5 rfl ?_
                first | refine q_31E rfl (by decide) g1 ?_ | refine q_31 rfl (by decide) ?_
                first | refine q_neN0 (by omega) (fun hh => absurd hh (by omega)) (fun hh => ?_) | refine q_neI0 (fun hh => absurd hh (by omega)) (fun hh => ?_)
                refine q_5 rfl ?_
                first | refine q_31E rfl (by decide) g6 ?_ | refine q_31 rfl (by decide) ?_
                refine q_0 ?_
                refine q_eqN (by omega) (by omega) (fun hh => absurd hh (by omega)) (fun hh => ?_)
                refine q_5 rfl ?_
                first | refine q_31E rfl (by decide) g6 ?_ | refine q_31 rfl (by decide) ?_
                refine q_0 ?_
                refine q_gtN (by omega) (by omega) (fun hh => ?_) (fun hh => absurd hh (by omega))
                refine q_5 rfl ?_
                first | refine q_31E rfl (by decide) g6 ?_ | refine q_31 rfl (by decide) ?_
                refine q_0 ?_
                refine q_neN (by omega) (by omega) (fun hh => ?_) (fun hh => absurd hh (by omega))
                refine q_5 rfl ?_
                first | refine q_31E rfl (by decide) g6 ?_ | refine q_31 rfl (by decide) ?_
                refine q_0 ?_
                refine q_eqN (by omega) (by omega) (fun hh => ?_) (fun hh => absurd hh (by omega))
                refine q_5 rfl ?_
                refine q_47 (mj_ev_mono _) [] rfl rfl rfl (by decide) rfl rfl rfl ?_
                refine c_48a (d := d) hP' hB hS' hM hj hR0 k56 (fun I1 e1 q1 q2 => ?_)
                refine q_23 ?_
                exact tail _ I1 (toE e1).1 q1 (by rw [hru]) (fun j' hj' => by rw [hru]; exact q2 j' hj') (toE e1).2
              · refine q_3 rfl ?_
                refine q_0 ?_
                refine q_geN (by omega) (by omega) (fun hh => absurd hh (by omega)) (fun hh => ?_)
                refine q_5 rfl ?_
                first | refine q_31E rfl (by decide) g1 ?_ | refine q_31 rfl (by decide) ?_
                first | refine q_neN0 (by omega) (fun hh => absurd hh (by omega)) (fun hh => ?_) | refine q_neI0 (fun hh => absurd hh (by omega)) (fun hh => ?_)
                refine q_5 rfl ?_
                first | refine q_31E rfl (by decide) g6 ?_ | refine q_31 rfl (by decide) ?_
                refine q_0 ?_
                refine q_eqN (by omega) (by omega) (fun hh => absurd hh (by omega)) (fun hh => ?_)
                refine q_5 rfl ?_
                first | refine q_31E rfl (by decide) g6 ?_ | refine q_31 rfl (by decide) ?_
                refine q_0 ?_
                refine q_gtN (by omega) (by omega) (fun hh => ?_) (fun hh => absurd hh (by omega))
                refine q_5 rfl ?_
                first | refine q_31E rfl (by decide) g6 ?_ | refine q_31 rfl (by decide) ?_
                refine q_0 ?_
                refine q_neN (by omega) (by omega) (fun hh => ?_) (fun hh => absurd hh (by omega))
                refine q_5 rfl ?_
                first | refine q_31E rfl (by decide) g6 ?_ | refine q_31 rfl (by decide) ?_
                refine q_0 ?_
                refine q_eqN (by omega) (by omega) (fun hh => absurd hh (by omega)) (fun hh => ?_)
                refine q_5 rfl ?_
                first | refine q_31E rfl (by decide) g6 ?_ | refine q_31 rfl (by decide) ?_
                refine q_0 ?_
                refine q_neN (by omega) (by omega) (fun hh => absurd hh (by omega)) (fun hh => ?_)
                refine q_5 rfl ?_
                refine q_47 (mj_ev_mono _) [] rfl rfl rfl (by decide) rfl rfl rfl ?_
                refine c_48a (d := d) hP' hB hS' hM hj hR0 k56 (fun I1 e1 q1 q2 => ?_)
                refine q_23 ?_
                exact tail _ I1 (toE e1).1 q1 (by rw [hru]) (fun j' hj' => by rw [hru]; exact q2 j' hj') (toE e1).2
            · have k7 : 7 ≤ tK b N j := by omega
              refine q_3 rfl ?_
              refine q_0 ?_
              refine q_geN (by omega) (by omega) (fun hh => absurd hh (by omega)) (fun hh => ?_)
              refine q_5 rfl ?_
              first | refine q_31E rfl (by decide) g1 ?_ | refine q_31 rfl (by decide) ?_
              first | refine q_neN0 (by omega) (fun hh => absurd hh (by omega)) (fun hh => ?_) | refine q_neI0 (fun hh => absurd hh (by omega)) (fun hh => ?_)
              refine q_5 rfl ?_
              first | refine q_31E rfl (by decide) g6 ?_ | refine q_31 rfl (by decide) ?_
              refine q_0 ?_
              refine q_eqN (by omega) (by omega) (fun hh => absurd hh (by omega)) (fun hh => ?_)
              refine q_5 rfl ?_
              first | refine q_31E rfl (by decide) g6 ?_ | refine q_31 rfl (by decide) ?_
              refine q_0 ?_
              refine q_gtN (by omega) (by omega) (fun hh => ?_) (fun hh => absurd hh (by omega))
              refine q_5 rfl ?_
              first | refine q_31E rfl (by decide) g6 ?_ | refine q_31 rfl (by decide) ?_
              refine q_0 ?_
              refine q_neN (by omega) (by omega) (fun hh => ?_) (fun hh => absurd hh (by omega))
              refine q_5 rfl ?_
              first | refine q_31E rfl (by decide) g6 ?_ | refine q_31 rfl (by decide) ?_
              refine q_0 ?_
              refine q_eqN (by omega) (by omega) (fun hh => absurd hh (by omega)) (fun hh => ?_)
              refine q_5 rfl ?_
              first | refine q_31E rfl (by decide) g6 ?_ | refine q_31 rfl (by decide) ?_
              refine q_0 ?_
              refine q_neN (by omega) (by omega) (fun hh => ?_) (fun hh => absurd hh (by omega))
              refine q_5 rfl ?_
              refine q_0 ?_
              refine q_47 (mj_ev_mono _) [_] rfl rfl rfl (by decide) rfl rfl rfl ?_
              refine c_38G g1 g2.2.1 ?_
              have e1 : Eqf FQa I' (mj_upI (mj_upI (mj_upI I' 29 9 (nI 1)) 29 0 (nI (tB b N j))) 29 6 (nI 23)) := ((Eqf.rf.up rfl).up rfl).up rfl
              exact tail (.inl (1, j)) _ (toE e1).1 (SC_flt (by omega) (by omega)) (by rw [lnS_o k7]; rfl) (fun j' z => by cases z) (toE e1).2
  refine q_5 rfl ?_
  refine q_5 rfl ?_
  refine q_37 rfl (by decide) ?_
  rw [hPP]
  refine q_5 rfl ?_
  refine q_3 rfl ?_
  refine q_5 rfl ?_
  refine q_33 rfl (by decide) (hP _ _ _ rfl) ?_
  refine q_46 (by decide) (by decide) (by decide) ?_
  refine q_71 rfl ?_
  rw [if_neg (by rw [show mj_ln 1 = 700 from rfl]; exact fun z => absurd ((nI_ltI (by omega) (by omega)).mp z) (by omega))]
  refine q_34 rfl (by decide) ?_
  refine q_5 rfl ?_
  refine q_0 ?_
  refine q_34 rfl (by decide) ?_
  refine q_5 rfl ?_
  refine q_0 ?_
  refine q_34 rfl (by decide) ?_
  refine q_5 rfl ?_
  refine q_1 ?_
  refine q_34 rfl (by decide) ?_
  refine q_5 rfl ?_
  refine q_33 rfl (by decide) (hP _ _ _ rfl) ?_
  refine q_47 (mj_ev_mono _) [] rfl rfl rfl (by decide) rfl rfl rfl ?_
  refine c_86a hP' (fun I1 e1 hM => ?_)
  refine q_5 rfl ?_
  refine q_47 (mj_ev_mono _) [] rfl rfl rfl (by decide) rfl rfl rfl ?_
  refine c_39 (j := 0) (b := b) (n := N) hP' ⟨fun i hi => ⟨(e1 1 i rfl).trans (hb i hi).1, (hb i hi).2⟩, hN, (e1 29 3 rfl).trans rfl⟩ (e1 29 9 rfl) (e1 29 4 rfl) (fun I2 e2 hT => ?_)
  refine q_0 ?_
  refine q_6 rfl rfl rfl ?_
  refine lp 701 0 NR0 [] I2 0 (by omega) ?_ ⟨fun i hi => ⟨(e2 1 i rfl).trans ((e1 1 i rfl).trans (hb i hi).1), (hb i hi).2⟩, hN, (e2 29 3 rfl).trans (e1 29 3 rfl)⟩ ⟨(e2 29 9 rfl).trans (e1 29 9 rfl), hT⟩ (hM.g (e2.to rfl rfl)) NR0_ok (by omega) (Nat.zero_le _) (Nat.zero_le _) rfl
  exact ((((((Eqf.rf.up rfl).up rfl).up rfl).up rfl).tr (e1.to rfl rfl)).tr (e2.to rfl rfl))
end C
