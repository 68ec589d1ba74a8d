/-! the class reads an EXPR as px does (the draft) -/
section C
variable {I : mj_I} {L : mj_L} {P : mj_P} {Q : mj_Q} {d n r j s l wi : Nat} {b : Nat → Nat} {st : ST} {lo hi M : Nat}
theorem SZa.sz {R0 : RP} (h : SZa R0 I) : I 25 1 = nI R0.length := h
theorem c_53aF (hB : RB b n I) (hS : SC b n (.inr j) I) (kk : ∀ I', Eqf (frm [] rdG) I I' → SC b n (.inl (if tK b n j ≤ 20 ∨ tK b n j = 40 then 2 else 1, j)) I' → Q (.inl none) (107, I', L, P)) : mj_ev (d + 2) 53 [.ref 29, .int (nI 6)] (107, I, L, P) Q := by
  refine ⟨rfl, ?_⟩
  obtain ⟨g1, g2⟩ := hS
  have g6 := g2.kd
  have kl := tK_lt (b := b) (n := n) (j := j) (fun i hi => (hB.1 i hi).2)
  have fin : ∀ c, c = (if tK b n j ≤ 20 ∨ tK b n j = 40 then 2 else 1) → mj_run (mj_ev (d + 1)) k53 Q (k53 46) [some (.ref 29), some (.int (nI 6))] [.int (nI c), .ref 29] (107, I, L, P) 0 0 := by
    intro c hc
    have c1 : 0 < c ∧ c < 10 := by rw [hc]; split <;> omega
    rw [← hc] at kk
    refine q_47 (mj_ev_mono _) [_] rfl rfl rfl (by decide) rfl rfl rfl ?_
    refine c_38G g1 g2.2.1 ?_
    refine q_25 ?_
    exact kk _ (((Eqf.rf.up rfl).up rfl).up rfl) (SC_flt c1.1 c1.2)
  show mj_run (mj_ev (d + 1)) k53 Q (k53 0) [some (.ref 29), some (.int (nI 6))] [] (107, I, L, P) 0 0
  by_cases c1 : tK b n j ≤ 19
  · refine q_3 rfl ?_
    refine q_0 ?_
    refine q_geN (by omega) (by omega) (fun hh => ?_) (fun hh => absurd hh (by omega))
    refine q_5 rfl ?_
    refine q_5 rfl ?_
    refine q_47 (mj_ev_mono _) [] rfl rfl rfl (by decide) rfl rfl rfl ?_
    refine c_42 g6 (by omega) ?_
    rw [if_pos c1]
    first | refine q_neN0 (by omega) (fun hh => ?_) (fun hh => absurd hh (by omega)) | refine q_neI0 (fun hh => ?_) (fun hh => absurd (by omega) hh)
    refine q_0 ?_
    refine q_23 ?_
    exact fin 2 (if_pos (by omega)).symm
  · by_cases c2 : tK b n j = 20
    · refine q_3 rfl ?_
      refine q_0 ?_
      refine q_geN (by omega) (by omega) (fun hh => ?_) (fun hh => absurd hh (by omega))
      refine q_5 rfl ?_
      refine q_5 rfl ?_
      refine q_47 (mj_ev_mono _) [] rfl rfl rfl (by decide) rfl rfl rfl ?_
      refine c_42 g6 (by omega) ?_
      rw [if_neg c1]
      first | refine q_neN0 (by omega) (fun hh => absurd hh (by omega)) (fun hh => ?_) | refine q_neI0 (fun hh => absurd hh (by omega)) (fun hh => ?_)
      refine q_5 rfl ?_
      first | refine q_31E rfl (by decide) g6 ?_ | refine q_31 rfl (by decide) ?_
      refine q_0 ?_
      refine q_eqN (by omega) (by omega) (fun hh => ?_) (fun hh => absurd hh (by omega))
      refine q_0 ?_
      refine q_23 ?_
      exact fin 2 (if_pos (by omega)).symm
    · by_cases c3 : tK b n j = 40
      · refine q_3 rfl ?_
        refine q_0 ?_
        refine q_geN (by omega) (by omega) (fun hh => ?_) (fun hh => absurd hh (by omega))
        refine q_5 rfl ?_
        refine q_5 rfl ?_
        refine q_47 (mj_ev_mono _) [] rfl rfl rfl (by decide) rfl rfl rfl ?_
        refine c_42 g6 (by omega) ?_
        rw [if_neg c1]
        first | refine q_neN0 (by omega) (fun hh => absurd hh (by omega)) (fun hh => ?_) | refine q_neI0 (fun hh => absurd hh (by omega)) (fun hh => ?_)
        refine q_5 rfl ?_
        first | refine q_31E rfl (by decide) g6 ?_ | refine q_31 rfl (by decide) ?_
        refine q_0 ?_
        refine q_eqN (by omega) (by omega) (fun hh => absurd hh (by omega)) (fun hh => ?_)
        refine q_5 rfl ?_
        first | refine q_31E rfl (by decide) g6 ?_ | refine q_31 rfl (by decide) ?_
        refine q_0 ?_
        refine q_neN (by omega) (by omega) (fun hh => absurd hh (by omega)) (fun hh => ?_)
        refine q_0 ?_
        refine q_23 ?_
        exact fin 2 (if_pos (by omega)).symm
      · refine q_3 rfl ?_
        refine q_0 ?_
        refine q_geN (by omega) (by omega) (fun hh => ?_) (fun hh => absurd hh (by omega))
        refine q_5 rfl ?_
        refine q_5 rfl ?_
        refine q_47 (mj_ev_mono _) [] rfl rfl rfl (by decide) rfl rfl rfl ?_
        refine c_42 g6 (by omega) ?_
        rw [if_neg c1]
        first | refine q_neN0 (by omega) (fun hh => absurd hh (by omega)) (fun hh => ?_) | refine q_neI0 (fun hh => absurd hh (by omega)) (fun hh => ?_)
        refine q_5 rfl ?_
        first | refine q_31E rfl (by decide) g6 ?_ | refine q_31 rfl (by decide) ?_
        refine q_0 ?_
        refine q_eqN (by omega) (by omega) (fun hh => absurd hh (by omega)) (fun hh => ?_)
        refine q_5 rfl ?_
        first | refine q_31E rfl (by decide) g6 ?_ | refine q_31 rfl (by decide) ?_
        refine q_0 ?_
        refine q_neN (by omega) (by omega) (fun hh => ?_) (fun hh => absurd hh (by omega))
        refine q_0 ?_
        exact fin 1 (if_neg (by omega)).symm
set_option maxHeartbeats 4000000 in
theorem exa (hP : PS 16 P) (hi9 : hi ≤ 10) (hM31 : M < 2 ^ 31) (hMk : ∀ k, k ≤ 19 → (M.testBit k = true ↔ ∃ v, mk k = some v ∧ lo ≤ v ∧ v ≤ hi)) : ∀ f,
    (∀ l, l ≤ 5 → ∀ wi, wi ≤ 5 → ∀ j R0 I Q D, D + 8 * wi + l = d + 60 → j ≤ n → R0.length ≤ j → RB b n I → I 29 10 = nI M → SC b n (.inr j) I → SZa R0 I →
      (∀ c jf, px (tK b n) (tV b n) (tD b n) lo hi f l wi j = .inl (c, jf) → c ≠ 99 → (∀ I' s, Eqf Fa I I' → SC b n (.inl (c, jf)) I' → I' 25 1 = nI s → s + 7 * l + 35 * wi ≤ 910 → Q (.inl none) (107, I', L, P)) → mj_ev D 49 [.ref 29, .int (nI l), .int (nI wi)] (107, I, L, P) Q)
      ∧ (∀ j2 R, px (tK b n) (tV b n) (tD b n) lo hi f l wi j = .inr (j2, R) → (∀ I', Eqf Fa I I' → SC b n (.inr j2) I' → SZa (R0 ++ R) I' → Q (.inl none) (107, I', L, P)) → mj_ev D 49 [.ref 29, .int (nI l), .int (nI wi)] (107, I, L, P) Q))
    ∧ (∀ l, (l = 0 ∨ l = 1 ∨ l = 3 ∨ l = 4) → ∀ wi, wi ≤ 5 → ∀ j R0 I Q D turn x6, D + 1 + 8 * wi + l = d + 60 → j ≤ n → R0.length ≤ j → turn ≤ j → RB b n I → I 29 10 = nI M → SC b n (.inr j) I → SZa R0 I →
      (∀ c jf, px (tK b n) (tV b n) (tD b n) lo hi f (l + 10) wi j = .inl (c, jf) → c ≠ 99 → (∀ I' s, Eqf Fa I I' → SC b n (.inl (c, jf)) I' → I' 25 1 = nI s → s + 7 * l + 35 * wi ≤ 910 → Q (.inl none) (107, I', L, P)) → mj_run (mj_ev D) k49 Q (k49 50) [some (.ref 29), some (.int (nI l)), some (.int (nI wi)), some (.int (nI 0)), some (.int (nI 700)), some (.int (nI turn)), x6] [] (107, I, L, P) 0 0)
      ∧ (∀ j2 R, px (tK b n) (tV b n) (tD b n) lo hi f (l + 10) wi j = .inr (j2, R) → (∀ I', Eqf Fa I I' → SC b n (.inr j2) I' → SZa (R0 ++ R) I' → Q (.inl none) (107, I', L, P)) → mj_run (mj_ev D) k49 Q (k49 50) [some (.ref 29), some (.int (nI l)), some (.int (nI wi)), some (.int (nI 0)), some (.int (nI 700)), some (.int (nI turn)), x6] [] (107, I, L, P) 0 0)) := by
  intro f
  induction f with
  | zero =>
    refine ⟨fun l _ wi _ j R0 I Q D _ _ _ _ _ _ _ => ⟨fun c jf h hc => ?_, fun j2 R h => by cases h⟩, fun l _ wi _ j R0 I Q D turn x6 _ _ _ _ _ _ _ _ => ⟨fun c jf h hc => ?_, fun j2 R h => by cases h⟩⟩
    all_goals
      cases h
      exact absurd rfl hc
  | succ f ih =>
    obtain ⟨ihL, ihT⟩ := ih
    refine ⟨?_, ?_⟩
    · intro l hl5 wi hwi j R0 I Q D hD hjn hR0 hB h10 hS hz
      obtain ⟨D', rfl⟩ : ∃ D', D = D' + 12 := ⟨D - 12, by omega⟩
      have hn7 := hB.2.1
      have kl := tK_lt (b := b) (n := n) (j := j) (fun i hi => (hB.1 i hi).2)
      have hS' := hS
      obtain ⟨g1, g2⟩ := hS
      have g6 := g2.kd
      have hzn := hz.sz
      by_cases l5 : l = 5
      · subst l5
        -- a part
        have part : (∀ c jf, px (tK b n) (tV b n) (tD b n) lo hi (f + 1) 5 wi j = .inl (c, jf) → c ≠ 99 → ∀ Q : mj_Q, (∀ I' s, Eqf Fa I I' → SC b n (.inl (c, jf)) I' → I' 25 1 = nI s → s + 7 * 5 + 35 * wi ≤ 910 → Q (.inl none) (107, I', L, P)) → mj_ev (D' + 11) 52 [.ref 29, .int (nI wi)] (107, I, L, P) Q) ∧ (∀ j2 R, px (tK b n) (tV b n) (tD b n) lo hi (f + 1) 5 wi j = .inr (j2, R) → ∀ Q : mj_Q, (∀ I', Eqf Fa I I' → SC b n (.inr j2) I' → SZa (R0 ++ R) I' → Q (.inl none) (107, I', L, P)) → mj_ev (D' + 11) 52 [.ref 29, .int (nI wi)] (107, I, L, P) Q) := by
          rw [px_5]
          unfold ppt
          have ft : ∀ c, Eqf Fa I (mj_upI (mj_upI (mj_upI I 29 9 (nI c)) 29 0 (nI (tB b n j))) 29 6 (nI 23)) := fun c => ((Eqf.rf.up rfl).up rfl).up rfl
          have fz : ∀ c, (mj_upI (mj_upI (mj_upI I 29 9 (nI c)) 29 0 (nI (tB b n j))) 29 6 (nI 23)) 25 1 = nI R0.length := fun c => hzn
          by_cases k20 : tK b n j = 20
          · rw [if_pos k20]
            obtain ⟨g7, g8⟩ := g2.2.2.2 k20
            have v4 := (t_num k20).2
            have dn : tD b n j ≤ 700 := by
              have := t_adv (b := b) (n := n) (j := j) (by omega)
              unfold tD
              omega
            rw [k20] at g6
            by_cases c4 : 4 < tD b n j
            · rw [if_pos c4]
              refine ⟨fun c jf h hc Q kk => ⟨rfl, ?_⟩, fun j2 R h => by cases h⟩
              cases h
              show mj_run (mj_ev (D' + 10)) k52 Q (k52 0) [some (.ref 29), some (.int (nI wi))] [] (107, I, L, P) 0 0
              refine q_5 rfl ?_
              first | refine q_31E rfl (by decide) g6 ?_ | refine q_31 rfl (by decide) ?_
              refine q_0 ?_
              refine q_neN (by omega) (by omega) (fun hh => absurd hh (by omega)) (fun hh => ?_)
              refine q_5 rfl ?_
              first | refine q_31E rfl (by decide) g8 ?_ | refine q_31 rfl (by decide) ?_
              refine q_0 ?_
              refine q_leN (by omega) (by omega) (fun hh => absurd hh (by omega)) (fun hh => ?_)
              refine q_5 rfl ?_
              refine q_0 ?_
              refine q_47 (mj_ev_mono _) [_] rfl rfl rfl (by decide) rfl rfl rfl ?_
              refine c_38G g1 g2.2.1 ?_
              refine q_23 ?_
              refine q_25 ?_
              exact kk _ _ (ft 2) (SC_flt (by omega) (by omega)) (fz 2) (by omega)
            · rw [if_neg c4]
              refine ⟨fun c jf h => (by cases h), fun j2 R h Q kk => ⟨rfl, ?_⟩⟩
              cases h
              have jl := t_adv (b := b) (n := n) (j := j) (by omega)
              have jp := t_pos (b := b) (n := n) (j := j) (by omega)
              show mj_run (mj_ev (D' + 10)) k52 Q (k52 0) [some (.ref 29), some (.int (nI wi))] [] (107, I, L, P) 0 0
              refine q_5 rfl ?_
              first | refine q_31E rfl (by decide) g6 ?_ | refine q_31 rfl (by decide) ?_
              refine q_0 ?_
              refine q_neN (by omega) (by omega) (fun hh => absurd hh (by omega)) (fun hh => ?_)
              refine q_5 rfl ?_
              first | refine q_31E rfl (by decide) g8 ?_ | refine q_31 rfl (by decide) ?_
              refine q_0 ?_
              refine q_leN (by omega) (by omega) (fun hh => ?_) (fun hh => absurd hh (by omega))
              refine q_5 rfl ?_
              first | refine q_31E rfl (by decide) g6 ?_ | refine q_31 rfl (by decide) ?_
              refine q_0 ?_
              refine q_neN (by omega) (by omega) (fun hh => absurd hh (by omega)) (fun hh => ?_)
              refine q_5 rfl ?_
              refine q_33 rfl (by decide) (hP _ _ _ rfl) ?_
              refine q_33 rfl (by decide) (hP _ _ _ rfl) ?_
              refine q_0 ?_
              refine q_5 rfl ?_
              first | refine q_31E rfl (by decide) g7 ?_ | refine q_31 rfl (by decide) ?_
              refine q_47 (mj_ev_mono _) [_, _] rfl rfl rfl (by decide) rfl rfl rfl ?_
              refine c_61a (q := (1, tV b n j)) ⟨by show 0 ≤ 10; omega, v4⟩ (by omega) hP hz (fun I1 e1 hz1 => ?_)
              refine q_5 rfl ?_
              refine q_47 (mj_ev_mono _) [] rfl rfl rfl (by decide) rfl rfl rfl ?_
              refine c_39 (j := j + 1) hP (hB.fa (usa Eqf.rf e1)) ((e1 29 9 rfl).trans g1) ((e1 29 4 rfl).trans g2.1) (fun I2 e2 hT => ?_)
              refine q_23 ?_
              refine q_25 ?_
              exact kk I2 (uta (usa Eqf.rf e1) e2) ⟨(e2 29 9 rfl).trans ((e1 29 9 rfl).trans g1), hT⟩ (hz1.g (e2.to rfl rfl))
          · rw [if_neg k20]
            by_cases k40 : tK b n j = 40
            · rw [if_pos k40]
              rw [k40] at g6
              have nj : j + 1 ≤ n := by
                have : j ≠ n := fun z => by rw [z, tK_n] at k40; omega
                omega
              by_cases w5 : 5 ≤ wi
              · rw [if_pos w5]
                refine ⟨fun c jf h hc Q kk => ⟨rfl, ?_⟩, fun j2 R h => by cases h⟩
                cases h
                have w6 : wi = 5 := by omega
                subst w6
                show mj_run (mj_ev (D' + 10)) k52 Q (k52 0) [some (.ref 29), some (.int (nI 5))] [] (107, I, L, P) 0 0
                refine q_5 rfl ?_
                first | refine q_31E rfl (by decide) g6 ?_ | refine q_31 rfl (by decide) ?_
                refine q_0 ?_
                refine q_neN (by omega) (by omega) (fun hh => ?_) (fun hh => absurd hh (by omega))
                refine q_5 rfl ?_
                first | refine q_31E rfl (by decide) g6 ?_ | refine q_31 rfl (by decide) ?_
                refine q_0 ?_
                refine q_neN (by omega) (by omega) (fun hh => ?_) (fun hh => absurd hh (by omega))
                refine q_5 rfl ?_
                first | refine q_31E rfl (by decide) g6 ?_ | refine q_31 rfl (by decide) ?_
                refine q_0 ?_
                refine q_neN (by omega) (by omega) (fun hh => absurd hh (by omega)) (fun hh => ?_)
                refine q_5 rfl ?_
                refine q_47 (mj_ev_mono _) [] rfl rfl rfl (by decide) rfl rfl rfl ?_
                refine c_39 (j := j + 1) hP hB g1 g2.1 (fun I2 e2 hT => ?_)
                have E2 := uta Eqf.rf e2
                refine q_5 rfl ?_
                refine q_3 rfl ?_
                refine q_0 ?_
                first | refine q_add ?_ | refine q_11 rfl ?_
                refine q_47 (mj_ev_mono _) [_] rfl rfl rfl (by decide) rfl rfl rfl ?_
                refine c_53aF (j := j + 1) (hB.fa E2) ⟨(e2 29 9 rfl).trans g1, hT⟩ (fun I3 e3 hS3 => ?_)
                refine q_5 rfl ?_
                refine q_0 ?_
                refine q_47 (mj_ev_mono _) [_] rfl rfl rfl (by decide) rfl rfl rfl ?_
                refine c_43 (Or.inl rfl) hP (hB.fa (upa E2 e3)) hS3 (fun I4 e4 hS4 => ?_)
                refine q_23 ?_
                refine q_25 ?_
                exact kk I4 R0.length (upa (upa E2 e3) e4) hS4 ((e4 25 1 rfl).trans ((e3 25 1 rfl).trans ((e2 25 1 rfl).trans hzn))) (by omega)
              · rw [if_neg w5]
                have sub : ∀ I2, Eqf Fa I I2 → TR b n (j + 1) I2 → I2 29 9 = nI 0 → SZa R0 I2 → ∀ Q2 : mj_Q, (∀ c jf, px (tK b n) (tV b n) (tD b n) lo hi f 0 (wi + 1) (j + 1) = .inl (c, jf) → c ≠ 99 → (∀ I' s, Eqf Fa I2 I' → SC b n (.inl (c, jf)) I' → I' 25 1 = nI s → s + 7 * 0 + 35 * (wi + 1) ≤ 910 → Q2 (.inl none) (107, I', L, P)) → mj_ev (D' + 10) 53 [.ref 29, .int (nI (wi + 1))] (107, I2, L, P) Q2) ∧ (∀ j2 R, px (tK b n) (tV b n) (tD b n) lo hi f 0 (wi + 1) (j + 1) = .inr (j2, R) → (∀ I', Eqf Fa I2 I' → SC b n (.inr j2) I' → SZa (R0 ++ R) I' → Q2 (.inl none) (107, I', L, P)) → mj_ev (D' + 10) 53 [.ref 29, .int (nI (wi + 1))] (107, I2, L, P) Q2) := by
                  intro I2 E2 hT h9 hz2 Q2
                  have base : ∀ Q2 : mj_Q, mj_ev (D' + 9) 49 [.ref 29, .int (nI 0), .int (nI (wi + 1))] (107, I2, L, P) Q2 → (∀ σ, Q2 (.inl none) σ → True) → True := fun _ _ _ => trivial
                  refine ⟨fun c jf h hc kk => ⟨rfl, ?_⟩, fun j2 R h kk => ⟨rfl, ?_⟩⟩
                  · show mj_run (mj_ev (D' + 9)) k53 Q2 (k53 0) [some (.ref 29), some (.int (nI (wi + 1)))] [] (107, I2, L, P) 0 0
                    refine q_3 rfl ?_
                    refine q_0 ?_
                    refine q_geN (by omega) (by omega) (fun hh => absurd hh (by omega)) (fun hh => ?_)
                    refine q_5 rfl ?_
                    refine q_0 ?_
                    refine q_3 rfl ?_
                    refine q_47 (mj_ev_mono _) [_, _] rfl rfl rfl (by decide) rfl rfl rfl ?_
                    refine (ihL 0 (by omega) (wi + 1) (by omega) (j + 1) R0 I2 _ (D' + 9) (by omega) nj (by omega) (hB.fa E2) ((E2 29 10 rfl).trans h10) ⟨h9, hT⟩ hz2).1 c jf h hc (fun I' s e1 q1 q2 q3 => ?_)
                    refine q_23 ?_
                    refine q_25 ?_
                    exact kk I' s e1 q1 q2 q3
                  · show mj_run (mj_ev (D' + 9)) k53 Q2 (k53 0) [some (.ref 29), some (.int (nI (wi + 1)))] [] (107, I2, L, P) 0 0
                    refine q_3 rfl ?_
                    refine q_0 ?_
                    refine q_geN (by omega) (by omega) (fun hh => absurd hh (by omega)) (fun hh => ?_)
                    refine q_5 rfl ?_
                    refine q_0 ?_
                    refine q_3 rfl ?_
                    refine q_47 (mj_ev_mono _) [_, _] rfl rfl rfl (by decide) rfl rfl rfl ?_
                    refine (ihL 0 (by omega) (wi + 1) (by omega) (j + 1) R0 I2 _ (D' + 9) (by omega) nj (by omega) (hB.fa E2) ((E2 29 10 rfl).trans h10) ⟨h9, hT⟩ hz2).2 j2 R h (fun I' e1 q1 q2 => ?_)
                    refine q_23 ?_
                    refine q_25 ?_
                    exact kk I' e1 q1 q2
                refine ⟨fun c jf h hc Q kk => ⟨rfl, ?_⟩, fun j2 R h Q kk => ⟨rfl, ?_⟩⟩
                · show mj_run (mj_ev (D' + 10)) k52 Q (k52 0) [some (.ref 29), some (.int (nI wi))] [] (107, I, L, P) 0 0
                  rcases rb_inl h with h1 | ⟨j2, R, h1, h2⟩
                  · refine q_5 rfl ?_
                    first | refine q_31E rfl (by decide) g6 ?_ | refine q_31 rfl (by decide) ?_
                    refine q_0 ?_
                    refine q_neN (by omega) (by omega) (fun hh => ?_) (fun hh => absurd hh (by omega))
                    refine q_5 rfl ?_
                    first | refine q_31E rfl (by decide) g6 ?_ | refine q_31 rfl (by decide) ?_
                    refine q_0 ?_
                    refine q_neN (by omega) (by omega) (fun hh => ?_) (fun hh => absurd hh (by omega))
                    refine q_5 rfl ?_
                    first | refine q_31E rfl (by decide) g6 ?_ | refine q_31 rfl (by decide) ?_
                    refine q_0 ?_
                    refine q_neN (by omega) (by omega) (fun hh => absurd hh (by omega)) (fun hh => ?_)
                    refine q_5 rfl ?_
                    refine q_47 (mj_ev_mono _) [] rfl rfl rfl (by decide) rfl rfl rfl ?_
                    refine c_39 (j := j + 1) hP hB g1 g2.1 (fun I2 e2 hT => ?_)
                    have E2 := uta Eqf.rf e2
                    refine q_5 rfl ?_
                    refine q_3 rfl ?_
                    refine q_0 ?_
                    first | refine q_add ?_ | refine q_11 rfl ?_
                    refine q_47 (mj_ev_mono _) [_] rfl rfl rfl (by decide) rfl rfl rfl ?_
                    refine (sub I2 E2 hT ((e2 29 9 rfl).trans g1) (hz.g (e2.to rfl rfl)) _).1 c jf h1 hc (fun I3 s e3 hS3 q2 q3 => ?_)
                    refine q_5 rfl ?_
                    refine q_0 ?_
                    refine q_47 (mj_ev_mono _) [_] rfl rfl rfl (by decide) rfl rfl rfl ?_
                    refine c_43 (Or.inl rfl) hP (hB.fa (E2.tr e3)) hS3 (fun I4 e4 hS4 => ?_)
                    refine q_23 ?_
                    refine q_25 ?_
                    exact kk I4 s (upa (E2.tr e3) e4) hS4 ((e4 25 1 rfl).trans q2) (by omega)
                  · have av := px_adv _ _ _ _ _ _ (Or.inl (by omega)) h1
                    have j2n : j2 ≤ n := by
                      apply Nat.not_lt.mp
                      intro q
                      exact av.2.2 n nj q tK_n
                    by_cases k41 : tK b n j2 = 41
                    · rw [if_pos k41] at h2; cases h2
                    · rw [if_neg k41] at h2
                      cases h2
                      refine q_5 rfl ?_
                      first | refine q_31E rfl (by decide) g6 ?_ | refine q_31 rfl (by decide) ?_
                      refine q_0 ?_
                      refine q_neN (by omega) (by omega) (fun hh => ?_) (fun hh => absurd hh (by omega))
                      refine q_5 rfl ?_
                      first | refine q_31E rfl (by decide) g6 ?_ | refine q_31 rfl (by decide) ?_
                      refine q_0 ?_
                      refine q_neN (by omega) (by omega) (fun hh => ?_) (fun hh => absurd hh (by omega))
                      refine q_5 rfl ?_
                      first | refine q_31E rfl (by decide) g6 ?_ | refine q_31 rfl (by decide) ?_
                      refine q_0 ?_
                      refine q_neN (by omega) (by omega) (fun hh => absurd hh (by omega)) (fun hh => ?_)
                      refine q_5 rfl ?_
                      refine q_47 (mj_ev_mono _) [] rfl rfl rfl (by decide) rfl rfl rfl ?_
                      refine c_39 (j := j + 1) hP hB g1 g2.1 (fun I2 e2 hT => ?_)
                      have E2 := uta Eqf.rf e2
                      refine q_5 rfl ?_
                      refine q_3 rfl ?_
                      refine q_0 ?_
                      first | refine q_add ?_ | refine q_11 rfl ?_
                      refine q_47 (mj_ev_mono _) [_] rfl rfl rfl (by decide) rfl rfl rfl ?_
                      refine (sub I2 E2 hT ((e2 29 9 rfl).trans g1) (hz.g (e2.to rfl rfl)) _).2 jf R h1 (fun I3 e3 hS3 hz3 => ?_)
                      refine q_5 rfl ?_
                      refine q_0 ?_
                      refine q_47 (mj_ev_mono _) [_] rfl rfl rfl (by decide) rfl rfl rfl ?_
                      refine c_43 (Or.inl rfl) hP (hB.fa (E2.tr e3)) hS3 (fun I4 e4 hS4 => ?_)
                      rw [show ovS b n 41 (.inr jf) = .inl (1, jf) from if_neg k41] at hS4
                      refine q_23 ?_
                      refine q_25 ?_
                      exact kk I4 (R0 ++ R).length (upa (E2.tr e3) e4) hS4 ((e4 25 1 rfl).trans hz3.sz) (by rw [List.length_append]; omega)
                · show mj_run (mj_ev (D' + 10)) k52 Q (k52 0) [some (.ref 29), some (.int (nI wi))] [] (107, I, L, P) 0 0
                  obtain ⟨j3, R3, h1, h2⟩ := rb_inr h
                  by_cases k41 : tK b n j3 = 41
                  · rw [if_pos k41] at h2
                    cases h2
                    refine q_5 rfl ?_
                    first | refine q_31E rfl (by decide) g6 ?_ | refine q_31 rfl (by decide) ?_
                    refine q_0 ?_
                    refine q_neN (by omega) (by omega) (fun hh => ?_) (fun hh => absurd hh (by omega))
                    refine q_5 rfl ?_
                    first | refine q_31E rfl (by decide) g6 ?_ | refine q_31 rfl (by decide) ?_
                    refine q_0 ?_
                    refine q_neN (by omega) (by omega) (fun hh => ?_) (fun hh => absurd hh (by omega))
                    refine q_5 rfl ?_
                    first | refine q_31E rfl (by decide) g6 ?_ | refine q_31 rfl (by decide) ?_
                    refine q_0 ?_
                    refine q_neN (by omega) (by omega) (fun hh => absurd hh (by omega)) (fun hh => ?_)
                    refine q_5 rfl ?_
                    refine q_47 (mj_ev_mono _) [] rfl rfl rfl (by decide) rfl rfl rfl ?_
                    refine c_39 (j := j + 1) hP hB g1 g2.1 (fun I2 e2 hT => ?_)
                    have E2 := uta Eqf.rf e2
                    refine q_5 rfl ?_
                    refine q_3 rfl ?_
                    refine q_0 ?_
                    first | refine q_add ?_ | refine q_11 rfl ?_
                    refine q_47 (mj_ev_mono _) [_] rfl rfl rfl (by decide) rfl rfl rfl ?_
                    refine (sub I2 E2 hT ((e2 29 9 rfl).trans g1) (hz.g (e2.to rfl rfl)) _).2 j3 R h1 (fun I3 e3 hS3 hz3 => ?_)
                    refine q_5 rfl ?_
                    refine q_0 ?_
                    refine q_47 (mj_ev_mono _) [_] rfl rfl rfl (by decide) rfl rfl rfl ?_
                    refine c_43 (Or.inl rfl) hP (hB.fa (E2.tr e3)) hS3 (fun I4 e4 hS4 => ?_)
                    rw [show ovS b n 41 (.inr j3) = .inr (j3 + 1) from if_pos k41] at hS4
                    refine q_23 ?_
                    refine q_25 ?_
                    exact kk I4 (upa (E2.tr e3) e4) hS4 (hz3.g e4)
                  · rw [if_neg k41] at h2; cases h2
            · rw [if_neg k40]
              by_cases k19 : tK b n j ≤ 19
              · rw [if_pos k19]
                have jl := t_adv (b := b) (n := n) (j := j) (by omega)
                have jp := t_pos (b := b) (n := n) (j := j) (by omega)
                have bad : (∀ v, mk (tK b n j) = some v → ¬ (lo ≤ v ∧ v ≤ hi)) → ∀ Q : mj_Q, (∀ I' s, Eqf Fa I I' → SC b n (.inl (3, j)) I' → I' 25 1 = nI s → s + 7 * 5 + 35 * wi ≤ 910 → Q (.inl none) (107, I', L, P)) → mj_ev (D' + 11) 52 [.ref 29, .int (nI wi)] (107, I, L, P) Q := by
                  intro hb Q kk
                  have tb : M.testBit (tK b n j) = false := by
                    cases e : M.testBit (tK b n j) with
                    | false => rfl
                    | true =>
                      obtain ⟨v, q1, q2⟩ := (hMk _ k19).mp e
                      exact absurd q2 (hb v q1)
                  refine ⟨rfl, ?_⟩
                  show mj_run (mj_ev (D' + 10)) k52 Q (k52 0) [some (.ref 29), some (.int (nI wi))] [] (107, I, L, P) 0 0
                  refine q_5 rfl ?_
                  first | refine q_31E rfl (by decide) g6 ?_ | refine q_31 rfl (by decide) ?_
                  refine q_0 ?_
                  refine q_neN (by omega) (by omega) (fun hh => ?_) (fun hh => absurd hh (by omega))
                  refine q_5 rfl ?_
                  first | refine q_31E rfl (by decide) g6 ?_ | refine q_31 rfl (by decide) ?_
                  refine q_0 ?_
                  refine q_neN (by omega) (by omega) (fun hh => ?_) (fun hh => absurd hh (by omega))
                  refine q_5 rfl ?_
                  first | refine q_31E rfl (by decide) g6 ?_ | refine q_31 rfl (by decide) ?_
                  refine q_0 ?_
                  refine q_neN (by omega) (by omega) (fun hh => ?_) (fun hh => absurd hh (by omega))
                  refine q_5 rfl ?_
                  refine q_47 (mj_ev_mono _) [] rfl rfl rfl (by decide) rfl rfl rfl ?_
                  refine c_42 g6 (by omega) ?_
                  rw [if_pos k19]
                  first | refine q_neN0 (by omega) (fun hh => ?_) (fun hh => absurd hh (by omega)) | refine q_neI0 (fun hh => ?_) (fun hh => absurd (by omega) hh)
                  refine q_5 rfl ?_
                  first | refine q_31E rfl (by decide) h10 ?_ | refine q_31 rfl (by decide) ?_
                  refine q_5 rfl ?_
                  first | refine q_31E rfl (by decide) g6 ?_ | refine q_31 rfl (by decide) ?_
                  first | refine q_bitT (by assumption) (by omega) (by omega) ?_ | refine q_bitF (by assumption) (by omega) (by omega) ?_ | refine q_bit (by omega) (by omega) ?_ | refine q_bitM (by first | omega | assumption) (by omega) ?_
                  rw [tb, if_neg (by decide)]
                  first | refine q_neN0 (by omega) (fun hh => absurd hh (by omega)) (fun hh => ?_) | refine q_neI0 (fun hh => absurd hh (by omega)) (fun hh => ?_)
                  refine q_5 rfl ?_
                  refine q_0 ?_
                  refine q_47 (mj_ev_mono _) [_] rfl rfl rfl (by decide) rfl rfl rfl ?_
                  refine c_38G g1 g2.2.1 ?_
                  refine q_23 ?_
                  refine q_25 ?_
                  exact kk _ _ (ft 3) (SC_flt (by omega) (by omega)) (fz 3) (by omega)
                cases hm : mk (tK b n j) with
                | none =>
                  refine ⟨fun c jf h hc Q kk => ?_, fun j2 R h => by cases h⟩
                  cases h
                  exact bad (fun v hv => by rw [hm] at hv; cases hv) Q kk
                | some v =>
                  show (∀ c jf, (if lo ≤ v ∧ v ≤ hi then (Sum.inr (j + 1, [(2, v)]) : PR1) else .inl (3, j)) = .inl (c, jf) → _) ∧ (∀ j2 R, (if lo ≤ v ∧ v ≤ hi then (Sum.inr (j + 1, [(2, v)]) : PR1) else .inl (3, j)) = .inr (j2, R) → _)
                  by_cases hv : lo ≤ v ∧ v ≤ hi
                  · rw [if_pos hv]
                    refine ⟨fun c jf h => (by cases h), fun j2 R h Q kk => ⟨rfl, ?_⟩⟩
                    cases h
                    have tb : M.testBit (tK b n j) = true := (hMk _ k19).mpr ⟨v, hm, hv⟩
                    have hkv : tK b n j = kv v := by
                      have h1 := mk_lt hm
                      unfold mk at hm
                      rw [if_pos h1.1] at hm
                      have e2 : mw (tK b n j) = v := Option.some.inj hm
                      have : ∀ k, k < 19 → mw k ≤ 10 → kv (mw k) = k := by decide
                      have := this (tK b n j) h1.1 (by omega)
                      rw [e2] at this
                      exact this.symm
                    have kv9 : kv v < 10000 := by omega
                    show mj_run (mj_ev (D' + 10)) k52 Q (k52 0) [some (.ref 29), some (.int (nI wi))] [] (107, I, L, P) 0 0
                    refine q_5 rfl ?_
                    first | refine q_31E rfl (by decide) g6 ?_ | refine q_31 rfl (by decide) ?_
                    refine q_0 ?_
                    refine q_neN (by omega) (by omega) (fun hh => ?_) (fun hh => absurd hh (by omega))
                    refine q_5 rfl ?_
                    first | refine q_31E rfl (by decide) g6 ?_ | refine q_31 rfl (by decide) ?_
                    refine q_0 ?_
                    refine q_neN (by omega) (by omega) (fun hh => ?_) (fun hh => absurd hh (by omega))
                    refine q_5 rfl ?_
                    first | refine q_31E rfl (by decide) g6 ?_ | refine q_31 rfl (by decide) ?_
                    refine q_0 ?_
                    refine q_neN (by omega) (by omega) (fun hh => ?_) (fun hh => absurd hh (by omega))
                    refine q_5 rfl ?_
                    refine q_47 (mj_ev_mono _) [] rfl rfl rfl (by decide) rfl rfl rfl ?_
                    refine c_42 g6 (by omega) ?_
                    rw [if_pos k19]
                    first | refine q_neN0 (by omega) (fun hh => ?_) (fun hh => absurd hh (by omega)) | refine q_neI0 (fun hh => ?_) (fun hh => absurd (by omega) hh)
                    refine q_5 rfl ?_
                    first | refine q_31E rfl (by decide) h10 ?_ | refine q_31 rfl (by decide) ?_
                    refine q_5 rfl ?_
                    first | refine q_31E rfl (by decide) g6 ?_ | refine q_31 rfl (by decide) ?_
                    first | refine q_bitT (by assumption) (by omega) (by omega) ?_ | refine q_bitF (by assumption) (by omega) (by omega) ?_ | refine q_bit (by omega) (by omega) ?_ | refine q_bitM (by first | omega | assumption) (by omega) ?_
                    rw [tb, if_pos rfl]
                    first | refine q_neN0 (by omega) (fun hh => ?_) (fun hh => absurd hh (by omega)) | refine q_neI0 (fun hh => ?_) (fun hh => absurd (by omega) hh)
                    refine q_5 rfl ?_
                    refine q_33 rfl (by decide) (hP _ _ _ rfl) ?_
                    refine q_33 rfl (by decide) (hP _ _ _ rfl) ?_
                    refine q_0 ?_
                    refine q_5 rfl ?_
                    first | refine q_31E rfl (by decide) g6 ?_ | refine q_31 rfl (by decide) ?_
                    refine q_47 (mj_ev_mono _) [_, _] rfl rfl rfl (by decide) rfl rfl rfl ?_
                    rw [hkv]
                    refine c_61a (q := (2, v)) ⟨by show 1 ≤ 10; omega, kv9⟩ (by omega) hP hz (fun I1 e1 hz1 => ?_)
                    refine q_5 rfl ?_
                    refine q_47 (mj_ev_mono _) [] rfl rfl rfl (by decide) rfl rfl rfl ?_
                    refine c_39 (j := j + 1) hP (hB.fa (usa Eqf.rf e1)) ((e1 29 9 rfl).trans g1) ((e1 29 4 rfl).trans g2.1) (fun I2 e2 hT => ?_)
                    refine q_25 ?_
                    exact kk I2 (uta (usa Eqf.rf e1) e2) ⟨(e2 29 9 rfl).trans ((e1 29 9 rfl).trans g1), hT⟩ (hz1.g (e2.to rfl rfl))
                  · rw [if_neg hv]
                    refine ⟨fun c jf h hc Q kk => ?_, fun j2 R h => by cases h⟩
                    cases h
                    exact bad (fun v' hv' => by rw [hm] at hv'; cases hv'; exact hv) Q kk
              · rw [if_neg k19]
                refine ⟨fun c jf h hc Q kk => ⟨rfl, ?_⟩, fun j2 R h => by cases h⟩
                cases h
                show mj_run (mj_ev (D' + 10)) k52 Q (k52 0) [some (.ref 29), some (.int (nI wi))] [] (107, I, L, P) 0 0
                refine q_5 rfl ?_
                first | refine q_31E rfl (by decide) g6 ?_ | refine q_31 rfl (by decide) ?_
                refine q_0 ?_
                refine q_neN (by omega) (by omega) (fun hh => ?_) (fun hh => absurd hh (by omega))
                refine q_5 rfl ?_
                first | refine q_31E rfl (by decide) g6 ?_ | refine q_31 rfl (by decide) ?_
                refine q_0 ?_
                refine q_neN (by omega) (by omega) (fun hh => ?_) (fun hh => absurd hh (by omega))
                refine q_5 rfl ?_
                first | refine q_31E rfl (by decide) g6 ?_ | refine q_31 rfl (by decide) ?_
                refine q_0 ?_
                refine q_neN (by omega) (by omega) (fun hh => ?_) (fun hh => absurd hh (by omega))
                refine q_5 rfl ?_
                refine q_47 (mj_ev_mono _) [] rfl rfl rfl (by decide) rfl rfl rfl ?_
                refine c_42 g6 (by omega) ?_
                rw [if_neg k19]
                first | refine q_neN0 (by omega) (fun hh => absurd hh (by omega)) (fun hh => ?_) | refine q_neI0 (fun hh => absurd hh (by omega)) (fun hh => ?_)
                refine q_5 rfl ?_
                refine q_0 ?_
                refine q_47 (mj_ev_mono _) [_] rfl rfl rfl (by decide) rfl rfl rfl ?_
                refine c_38G g1 g2.2.1 ?_
                refine q_23 ?_
                refine q_25 ?_
                exact kk _ _ (ft 1) (SC_flt (by omega) (by omega)) (fz 1) (by omega)
        refine ⟨fun c jf h hc kk => ⟨rfl, ?_⟩, fun j2 R h kk => ⟨rfl, ?_⟩⟩
        · show mj_run (mj_ev (D' + 11)) k49 Q (k49 0) [some (.ref 29), some (.int (nI 5)), some (.int (nI wi)), none, none, none, none] [] (107, I, L, P) 0 0
          refine q_3 rfl ?_
          refine q_0 ?_
          refine q_leN (by omega) (by omega) (fun hh => absurd hh (by omega)) (fun hh => ?_)
          refine q_5 rfl ?_
          refine q_3 rfl ?_
          refine q_47 (mj_ev_mono _) [_] rfl rfl rfl (by decide) rfl rfl rfl ?_
          refine part.1 c jf h hc _ (fun I' s e1 q1 q2 q3 => ?_)
          refine q_25 ?_
          exact kk I' s e1 q1 q2 q3
        · show mj_run (mj_ev (D' + 11)) k49 Q (k49 0) [some (.ref 29), some (.int (nI 5)), some (.int (nI wi)), none, none, none, none] [] (107, I, L, P) 0 0
          refine q_3 rfl ?_
          refine q_0 ?_
          refine q_leN (by omega) (by omega) (fun hh => absurd hh (by omega)) (fun hh => ?_)
          refine q_5 rfl ?_
          refine q_3 rfl ?_
          refine q_47 (mj_ev_mono _) [_] rfl rfl rfl (by decide) rfl rfl rfl ?_
          refine part.2 j2 R h _ (fun I' e1 q1 q2 => ?_)
          refine q_25 ?_
          exact kk I' e1 q1 q2
      · sorry
    · sorry
end C
