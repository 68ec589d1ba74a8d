/-! the class reads an EXPR as px does (the draft) -/
section C
variable {I : mj_I} {L : mj_L} {P : mj_P} {Q : mj_Q} {d n r j s l wi : Nat} {b : Nat → Nat} {st : ST} {lo hi M : Nat}
theorem SZa.sz {R0 : RP} (h : SZa R0 I) : I 25 1 = nI R0.length := h
theorem c_53aF (hB : RB b n I) (hS : SC b n (.inr j) I) (kk : ∀ I', Eqf (frm [] rdG) I I' → SC b n (.inl (if tK b n j ≤ 20 ∨ tK b n j = 40 then 2 else 1, j)) I' → Q (.inl none) (107, I', L, P)) : mj_ev (d + 2) 53 [.ref 29, .int (nI 6)] (107, I, L, P) Q := by
  refine ⟨rfl, ?_⟩
  obtain ⟨g1, g2⟩ := hS
  have g6 := g2.kd
  have kl := tK_lt (b := b) (n := n) (j := j) (fun i hi => (hB.1 i hi).2)
  have fin : ∀ c, c = (if tK b n j ≤ 20 ∨ tK b n j = 40 then 2 else 1) → mj_run (mj_ev (d + 1)) k53 Q (k53 46) [some (.ref 29), some (.int (nI 6))] [.int (nI c), .ref 29] (107, I, L, P) 0 0 := by
    intro c hc
    have c1 : 0 < c ∧ c < 10 := by rw [hc]; split <;> omega
    rw [← hc] at kk
    refine q_47 (mj_ev_mono _) [_] rfl rfl rfl (by decide) rfl rfl rfl ?_
    refine c_38G g1 g2.2.1 ?_
    refine q_25 ?_
    exact kk _ (((Eqf.rf.up rfl).up rfl).up rfl) (SC_flt c1.1 c1.2)
  show mj_run (mj_ev (d + 1)) k53 Q (k53 0) [some (.ref 29), some (.int (nI 6))] [] (107, I, L, P) 0 0
  by_cases c1 : tK b n j ≤ 19
  · refine q_3 rfl ?_
    refine q_0 ?_
    refine q_geN (by omega) (by omega) (fun hh => ?_) (fun hh => absurd hh (by omega))
    refine q_5 rfl ?_
    refine q_5 rfl ?_
    refine q_47 (mj_ev_mono _) [] rfl rfl rfl (by decide) rfl rfl rfl ?_
    refine c_42 g6 (by omega) ?_
    rw [if_pos c1]
    first | refine q_neN0 (by omega) (fun hh => ?_) (fun hh => absurd hh (by omega)) | refine q_neI0 (fun hh => ?_) (fun hh => absurd (by omega) hh)
    refine q_0 ?_
    refine q_23 ?_
    exact fin 2 (if_pos (by omega)).symm
  · by_cases c2 : tK b n j = 20
    · refine q_3 rfl ?_
      refine q_0 ?_
      refine q_geN (by omega) (by omega) (fun hh => ?_) (fun hh => absurd hh (by omega))
      refine q_5 rfl ?_
      refine q_5 rfl ?_
      refine q_47 (mj_ev_mono _) [] rfl rfl rfl (by decide) rfl rfl rfl ?_
      refine c_42 g6 (by omega) ?_
      rw [if_neg c1]
      first | refine q_neN0 (by omega) (fun hh => absurd hh (by omega)) (fun hh => ?_) | refine q_neI0 (fun hh => absurd hh (by omega)) (fun hh => ?_)
      refine q_5 rfl ?_
      first | refine q_31E rfl (by decide) g6 ?_ | refine q_31 rfl (by decide) ?_
      refine q_0 ?_
      refine q_eqN (by omega) (by omega) (fun hh => ?_) (fun hh => absurd hh (by omega))
      refine q_0 ?_
      refine q_23 ?_
      exact fin 2 (if_pos (by omega)).symm
    · by_cases c3 : tK b n j = 40
      · refine q_3 rfl ?_
        refine q_0 ?_
        refine q_geN (by omega) (by omega) (fun hh => ?_) (fun hh => absurd hh (by omega))
        refine q_5 rfl ?_
        refine q_5 rfl ?_
        refine q_47 (mj_ev_mono _) [] rfl rfl rfl (by decide) rfl rfl rfl ?_
        refine c_42 g6 (by omega) ?_
        rw [if_neg c1]
        first | refine q_neN0 (by omega) (fun hh => absurd hh (by omega)) (fun hh => ?_) | refine q_neI0 (fun hh => absurd hh (by omega)) (fun hh => ?_)
        refine q_5 rfl ?_
        first | refine q_31E rfl (by decide) g6 ?_ | refine q_31 rfl (by decide) ?_
        refine q_0 ?_
        refine q_eqN (by omega) (by omega) (fun hh => absurd hh (by omega)) (fun hh => ?_)
        refine q_5 rfl ?_
        first | refine q_31E rfl (by decide) g6 ?_ | refine q_31 rfl (by decide) ?_
        refine q_0 ?_
        refine q_neN (by omega) (by omega) (fun hh => absurd hh (by omega)) (fun hh => ?_)
        refine q_0 ?_
        refine q_23 ?_
        exact fin 2 (if_pos (by omega)).symm
      · refine q_3 rfl ?_
        refine q_0 ?_
        refine q_geN (by omega) (by omega) (fun hh => ?_) (fun hh => absurd hh (by omega))
        refine q_5 rfl ?_
        refine q_5 rfl ?_
        refine q_47 (mj_ev_mono _) [] rfl rfl rfl (by decide) rfl rfl rfl ?_
        refine c_42 g6 (by omega) ?_
        rw [if_neg c1]
        first | refine q_neN0 (by omega) (fun hh => absurd hh (by omega)) (fun hh => ?_) | refine q_neI0 (fun hh => absurd hh (by omega)) (fun hh => ?_)
        refine q_5 rfl ?_
        first | refine q_31E rfl (by decide) g6 ?_ | refine q_31 rfl (by decide) ?_
        refine q_0 ?_
        refine q_eqN (by omega) (by omega) (fun hh => absurd hh (by omega)) (fun hh => ?_)
        refine q_5 rfl ?_
        first | refine q_31E rfl (by decide) g6 ?_ | refine q_31 rfl (by decide) ?_
        refine q_0 ?_
        refine q_neN (by omega) (by omega) (fun hh => ?_) (fun hh => absurd hh (by omega))
        refine q_0 ?_
        exact fin 1 (if_neg (by omega)).symm
theorem j61a {R0 : RP} {t : Nat} (t4 : 4 ≤ t) (t11 : t ≤ 11) (hl : R0.length < 700) (hP : PS 16 P) (hz : SZa R0 I) (kk : ∀ I', Eqf (frm [27] [(25, 1)]) I I' → SZa (R0 ++ [(t, 0)]) I' → Q (.inl none) (107, I', L, P)) : mj_ev (d + 1) 61 [.ref 25, .int (nI (kd t)), .int (nI 0)] (107, I, L, P) Q := by
  have p0 : pay (t, 0) = 0 := by
    unfold pay
    rw [if_neg (by show ¬ t = 1; omega), if_neg (by show ¬ t = 2; omega)]
  have k10 : kd t ≤ 10 := by
    unfold kd
    (repeat' split) <;> omega
  have := c_61a (d := d) (q := (t, 0)) ⟨k10, by rw [p0]; omega⟩ hl hP hz kk
  rw [p0] at this
  exact this
theorem jI_some {l k t : Nat} (h : jn l k = some t) : jI l k = nI (kd t) := by
  unfold jI
  rw [h]
theorem jI_none {l k : Nat} (h : jn l k = none) : jI l k = -(nI 1) := by
  unfold jI
  rw [h]
theorem kd_ne (t : Nat) (h : t ≤ 11) : ¬ nI (kd t) = -(nI 1) := mI_ne (by unfold kd; (repeat' split) <;> omega)
set_option maxHeartbeats 4000000 in
theorem exa (hP : PS 16 P) (hi9 : hi ≤ 10) (hM31 : M < 2 ^ 31) (hMk : ∀ k, k ≤ 19 → (M.testBit k = true ↔ ∃ v, mk k = some v ∧ lo ≤ v ∧ v ≤ hi)) : ∀ f,
    (∀ l, l ≤ 5 → ∀ wi, wi ≤ 5 → ∀ j R0 I Q D, D + 8 * wi + l = d + 60 → j ≤ n → R0.length ≤ j → RB b n I → I 29 10 = nI M → SC b n (.inr j) I → SZa R0 I →
      (∀ c jf, px (tK b n) (tV b n) (tD b n) lo hi f l wi j = .inl (c, jf) → c ≠ 99 → (∀ I' s, Eqf Fa I I' → SC b n (.inl (c, jf)) I' → I' 25 1 = nI s → s + 7 * l + 35 * wi ≤ 910 → Q (.inl none) (107, I', L, P)) → mj_ev D 49 [.ref 29, .int (nI l), .int (nI wi)] (107, I, L, P) Q)
      ∧ (∀ j2 R, px (tK b n) (tV b n) (tD b n) lo hi f l wi j = .inr (j2, R) → (∀ I', Eqf Fa I I' → SC b n (.inr j2) I' → SZa (R0 ++ R) I' → Q (.inl none) (107, I', L, P)) → mj_ev D 49 [.ref 29, .int (nI l), .int (nI wi)] (107, I, L, P) Q))
    ∧ (∀ l, (l = 0 ∨ l = 1 ∨ l = 3 ∨ l = 4) → ∀ wi, wi ≤ 5 → ∀ j R0 I Q D turn x6, D + 1 + 8 * wi + l = d + 60 → j ≤ n → R0.length ≤ j → turn ≤ j → RB b n I → I 29 10 = nI M → SC b n (.inr j) I → SZa R0 I →
      (∀ c jf, px (tK b n) (tV b n) (tD b n) lo hi f (l + 10) wi j = .inl (c, jf) → c ≠ 99 → (∀ I' s, Eqf Fa I I' → SC b n (.inl (c, jf)) I' → I' 25 1 = nI s → s + 7 * l + 35 * wi ≤ 910 → Q (.inl none) (107, I', L, P)) → mj_run (mj_ev D) k49 Q (k49 50) [some (.ref 29), some (.int (nI l)), some (.int (nI wi)), some (.int (nI 0)), some (.int (nI 700)), some (.int (nI turn)), x6] [] (107, I, L, P) 0 0)
      ∧ (∀ j2 R, px (tK b n) (tV b n) (tD b n) lo hi f (l + 10) wi j = .inr (j2, R) → (∀ I', Eqf Fa I I' → SC b n (.inr j2) I' → SZa (R0 ++ R) I' → Q (.inl none) (107, I', L, P)) → mj_run (mj_ev D) k49 Q (k49 50) [some (.ref 29), some (.int (nI l)), some (.int (nI wi)), some (.int (nI 0)), some (.int (nI 700)), some (.int (nI turn)), x6] [] (107, I, L, P) 0 0)) := by
  intro f
  induction f with
  | zero =>
    refine ⟨fun l _ wi _ j R0 I Q D _ _ _ _ _ _ _ => ⟨fun c jf h hc => ?_, fun j2 R h => by cases h⟩, fun l _ wi _ j R0 I Q D turn x6 _ _ _ _ _ _ _ _ => ⟨fun c jf h hc => ?_, fun j2 R h => by cases h⟩⟩
    all_goals
      cases h
      exact absurd rfl hc
  | succ f ih =>
    obtain ⟨ihL, ihT⟩ := ih
    refine ⟨?_, ?_⟩
    · intro l hl5 wi hwi j R0 I Q D hD hjn hR0 hB h10 hS hz
      obtain ⟨D', rfl⟩ : ∃ D', D = D' + 12 := ⟨D - 12, by omega⟩
      have hn7 := hB.2.1
      have kl := tK_lt (b := b) (n := n) (j := j) (fun i hi => (hB.1 i hi).2)
      have hS' := hS
      obtain ⟨g1, g2⟩ := hS
      have g6 := g2.kd
      have hzn := hz.sz
      by_cases l5 : l = 5
      · subst l5
        -- a part
        have part : (∀ c jf, px (tK b n) (tV b n) (tD b n) lo hi (f + 1) 5 wi j = .inl (c, jf) → c ≠ 99 → ∀ Q : mj_Q, (∀ I' s, Eqf Fa I I' → SC b n (.inl (c, jf)) I' → I' 25 1 = nI s → s + 7 * 5 + 35 * wi ≤ 910 → Q (.inl none) (107, I', L, P)) → mj_ev (D' + 11) 52 [.ref 29, .int (nI wi)] (107, I, L, P) Q) ∧ (∀ j2 R, px (tK b n) (tV b n) (tD b n) lo hi (f + 1) 5 wi j = .inr (j2, R) → ∀ Q : mj_Q, (∀ I', Eqf Fa I I' → SC b n (.inr j2) I' → SZa (R0 ++ R) I' → Q (.inl none) (107, I', L, P)) → mj_ev (D' + 11) 52 [.ref 29, .int (nI wi)] (107, I, L, P) Q) := by
          rw [px_5]
          unfold ppt
          have ft : ∀ c, Eqf Fa I (mj_upI (mj_upI (mj_upI I 29 9 (nI c)) 29 0 (nI (tB b n j))) 29 6 (nI 23)) := fun c => ((Eqf.rf.up rfl).up rfl).up rfl
          have fz : ∀ c, (mj_upI (mj_upI (mj_upI I 29 9 (nI c)) 29 0 (nI (tB b n j))) 29 6 (nI 23)) 25 1 = nI R0.length := fun c => hzn
          by_cases k20 : tK b n j = 20
          · rw [if_pos k20]
            obtain ⟨g7, g8⟩ := g2.2.2.2 k20
            have v4 := (t_num k20).2
            have dn : tD b n j ≤ 700 := by
              have := t_adv (b := b) (n := n) (j := j) (by omega)
              unfold tD
              omega
            rw [k20] at g6
            by_cases c4 : 4 < tD b n j
            · rw [if_pos c4]
              refine ⟨fun c jf h hc Q kk => ⟨rfl, ?_⟩, fun j2 R h => by cases h⟩
              cases h
              show mj_run (mj_ev (D' + 10)) k52 Q (k52 0) [some (.ref 29), some (.int (nI wi))] [] (107, I, L, P) 0 0
              refine q_5 rfl ?_
              first | refine q_31E rfl (by decide) g6 ?_ | refine q_31 rfl (by decide) ?_
              refine q_0 ?_
              refine q_neN (by omega) (by omega) (fun hh => absurd hh (by omega)) (fun hh => ?_)
              refine q_5 rfl ?_
              first | refine q_31E rfl (by decide) g8 ?_ | refine q_31 rfl (by decide) ?_
              refine q_0 ?_
              refine q_leN (by omega) (by omega) (fun hh => absurd hh (by omega)) (fun hh => ?_)
              refine q_5 rfl ?_
              refine q_0 ?_
              refine q_47 (mj_ev_mono _) [_] rfl rfl rfl (by decide) rfl rfl rfl ?_
              refine c_38G g1 g2.2.1 ?_
              refine q_23 ?_
              refine q_25 ?_
              exact kk _ _ (ft 2) (SC_flt (by omega) (by omega)) (fz 2) (by omega)
            · rw [if_neg c4]
              refine ⟨fun c jf h => (by cases h), fun j2 R h Q kk => ⟨rfl, ?_⟩⟩
              cases h
              have jl := t_adv (b := b) (n := n) (j := j) (by omega)
              have jp := t_pos (b := b) (n := n) (j := j) (by omega)
              show mj_run (mj_ev (D' + 10)) k52 Q (k52 0) [some (.ref 29), some (.int (nI wi))] [] (107, I, L, P) 0 0
              refine q_5 rfl ?_
              first | refine q_31E rfl (by decide) g6 ?_ | refine q_31 rfl (by decide) ?_
              refine q_0 ?_
              refine q_neN (by omega) (by omega) (fun hh => absurd hh (by omega)) (fun hh => ?_)
              refine q_5 rfl ?_
              first | refine q_31E rfl (by decide) g8 ?_ | refine q_31 rfl (by decide) ?_
              refine q_0 ?_
              refine q_leN (by omega) (by omega) (fun hh => ?_) (fun hh => absurd hh (by omega))
              refine q_5 rfl ?_
              first | refine q_31E rfl (by decide) g6 ?_ | refine q_31 rfl (by decide) ?_
              refine q_0 ?_
              refine q_neN (by omega) (by omega) (fun hh => absurd hh (by omega)) (fun hh => ?_)
              refine q_5 rfl ?_
              refine q_33 rfl (by decide) (hP _ _ _ rfl) ?_
              refine q_33 rfl (by decide) (hP _ _ _ rfl) ?_
              refine q_0 ?_
              refine q_5 rfl ?_
              first | refine q_31E rfl (by decide) g7 ?_ | refine q_31 rfl (by decide) ?_
              refine q_47 (mj_ev_mono _) [_, _] rfl rfl rfl (by decide) rfl rfl rfl ?_
              refine c_61a (q := (1, tV b n j)) ⟨by show 0 ≤ 10; omega, v4⟩ (by omega) hP hz (fun I1 e1 hz1 => ?_)
              refine q_5 rfl ?_
              refine q_47 (mj_ev_mono _) [] rfl rfl rfl (by decide) rfl rfl rfl ?_
              refine c_39 (j := j + 1) hP (hB.fa (usa Eqf.rf e1)) ((e1 29 9 rfl).trans g1) ((e1 29 4 rfl).trans g2.1) (fun I2 e2 hT => ?_)
              refine q_23 ?_
              refine q_25 ?_
              exact kk I2 (uta (usa Eqf.rf e1) e2) ⟨(e2 29 9 rfl).trans ((e1 29 9 rfl).trans g1), hT⟩ (hz1.g (e2.to rfl rfl))
          · rw [if_neg k20]
            by_cases k40 : tK b n j = 40
            · rw [if_pos k40]
              rw [k40] at g6
              have nj : j + 1 ≤ n := by
                have : j ≠ n := fun z => by rw [z, tK_n] at k40; omega
                omega
              by_cases w5 : 5 ≤ wi
              · rw [if_pos w5]
                refine ⟨fun c jf h hc Q kk => ⟨rfl, ?_⟩, fun j2 R h => by cases h⟩
                cases h
                have w6 : wi = 5 := by omega
                subst w6
                show mj_run (mj_ev (D' + 10)) k52 Q (k52 0) [some (.ref 29), some (.int (nI 5))] [] (107, I, L, P) 0 0
                refine q_5 rfl ?_
                first | refine q_31E rfl (by decide) g6 ?_ | refine q_31 rfl (by decide) ?_
                refine q_0 ?_
                refine q_neN (by omega) (by omega) (fun hh => ?_) (fun hh => absurd hh (by omega))
                refine q_5 rfl ?_
                first | refine q_31E rfl (by decide) g6 ?_ | refine q_31 rfl (by decide) ?_
                refine q_0 ?_
                refine q_neN (by omega) (by omega) (fun hh => ?_) (fun hh => absurd hh (by omega))
                refine q_5 rfl ?_
                first | refine q_31E rfl (by decide) g6 ?_ | refine q_31 rfl (by decide) ?_
                refine q_0 ?_
                refine q_neN (by omega) (by omega) (fun hh => absurd hh (by omega)) (fun hh => ?_)
                refine q_5 rfl ?_
                refine q_47 (mj_ev_mono _) [] rfl rfl rfl (by decide) rfl rfl rfl ?_
                refine c_39 (j := j + 1) hP hB g1 g2.1 (fun I2 e2 hT => ?_)
                have E2 := uta Eqf.rf e2
                refine q_5 rfl ?_
                refine q_3 rfl ?_
                refine q_0 ?_
                first | refine q_add ?_ | refine q_11 rfl ?_
                refine q_47 (mj_ev_mono _) [_] rfl rfl rfl (by decide) rfl rfl rfl ?_
                refine c_53aF (j := j + 1) (hB.fa E2) ⟨(e2 29 9 rfl).trans g1, hT⟩ (fun I3 e3 hS3 => ?_)
                refine q_5 rfl ?_
                refine q_0 ?_
                refine q_47 (mj_ev_mono _) [_] rfl rfl rfl (by decide) rfl rfl rfl ?_
                refine c_43 (Or.inl rfl) hP (hB.fa (upa E2 e3)) hS3 (fun I4 e4 hS4 => ?_)
                refine q_23 ?_
                refine q_25 ?_
                exact kk I4 R0.length (upa (upa E2 e3) e4) hS4 ((e4 25 1 rfl).trans ((e3 25 1 rfl).trans ((e2 25 1 rfl).trans hzn))) (by omega)
              · rw [if_neg w5]
                have sub : ∀ I2, Eqf Fa I I2 → TR b n (j + 1) I2 → I2 29 9 = nI 0 → SZa R0 I2 → ∀ Q2 : mj_Q, (∀ c jf, px (tK b n) (tV b n) (tD b n) lo hi f 0 (wi + 1) (j + 1) = .inl (c, jf) → c ≠ 99 → (∀ I' s, Eqf Fa I2 I' → SC b n (.inl (c, jf)) I' → I' 25 1 = nI s → s + 7 * 0 + 35 * (wi + 1) ≤ 910 → Q2 (.inl none) (107, I', L, P)) → mj_ev (D' + 10) 53 [.ref 29, .int (nI (wi + 1))] (107, I2, L, P) Q2) ∧ (∀ j2 R, px (tK b n) (tV b n) (tD b n) lo hi f 0 (wi + 1) (j + 1) = .inr (j2, R) → (∀ I', Eqf Fa I2 I' → SC b n (.inr j2) I' → SZa (R0 ++ R) I' → Q2 (.inl none) (107, I', L, P)) → mj_ev (D' + 10) 53 [.ref 29, .int (nI (wi + 1))] (107, I2, L, P) Q2) := by
                  intro I2 E2 hT h9 hz2 Q2
                  have base : ∀ Q2 : mj_Q, mj_ev (D' + 9) 49 [.ref 29, .int (nI 0), .int (nI (wi + 1))] (107, I2, L, P) Q2 → (∀ σ, Q2 (.inl none) σ → True) → True := fun _ _ _ => trivial
                  refine ⟨fun c jf h hc kk => ⟨rfl, ?_⟩, fun j2 R h kk => ⟨rfl, ?_⟩⟩
                  · show mj_run (mj_ev (D' + 9)) k53 Q2 (k53 0) [some (.ref 29), some (.int (nI (wi + 1)))] [] (107, I2, L, P) 0 0
                    refine q_3 rfl ?_
                    refine q_0 ?_
                    refine q_geN (by omega) (by omega) (fun hh => absurd hh (by omega)) (fun hh => ?_)
                    refine q_5 rfl ?_
                    refine q_0 ?_
                    refine q_3 rfl ?_
                    refine q_47 (mj_ev_mono _) [_, _] rfl rfl rfl (by decide) rfl rfl rfl ?_
                    refine (ihL 0 (by omega) (wi + 1) (by omega) (j + 1) R0 I2 _ (D' + 9) (by omega) nj (by omega) (hB.fa E2) ((E2 29 10 rfl).trans h10) ⟨h9, hT⟩ hz2).1 c jf h hc (fun I' s e1 q1 q2 q3 => ?_)
                    refine q_23 ?_
                    refine q_25 ?_
                    exact kk I' s e1 q1 q2 q3
                  · show mj_run (mj_ev (D' + 9)) k53 Q2 (k53 0) [some (.ref 29), some (.int (nI (wi + 1)))] [] (107, I2, L, P) 0 0
                    refine q_3 rfl ?_
                    refine q_0 ?_
                    refine q_geN (by omega) (by omega) (fun hh => absurd hh (by omega)) (fun hh => ?_)
                    refine q_5 rfl ?_
                    refine q_0 ?_
                    refine q_3 rfl ?_
                    refine q_47 (mj_ev_mono _) [_, _] rfl rfl rfl (by decide) rfl rfl rfl ?_
                    refine (ihL 0 (by omega) (wi + 1) (by omega) (j + 1) R0 I2 _ (D' + 9) (by omega) nj (by omega) (hB.fa E2) ((E2 29 10 rfl).trans h10) ⟨h9, hT⟩ hz2).2 j2 R h (fun I' e1 q1 q2 => ?_)
                    refine q_23 ?_
                    refine q_25 ?_
                    exact kk I' e1 q1 q2
                refine ⟨fun c jf h hc Q kk => ⟨rfl, ?_⟩, fun j2 R h Q kk => ⟨rfl, ?_⟩⟩
                · show mj_run (mj_ev (D' + 10)) k52 Q (k52 0) [some (.ref 29), some (.int (nI wi))] [] (107, I, L, P) 0 0
                  rcases rb_inl h with h1 | ⟨j2, R, h1, h2⟩
                  · refine q_5 rfl ?_
                    first | refine q_31E rfl (by decide) g6 ?_ | refine q_31 rfl (by decide) ?_
                    refine q_0 ?_
                    refine q_neN (by omega) (by omega) (fun hh => ?_) (fun hh => absurd hh (by omega))
                    refine q_5 rfl ?_
                    first | refine q_31E rfl (by decide) g6 ?_ | refine q_31 rfl (by decide) ?_
                    refine q_0 ?_
                    refine q_neN (by omega) (by omega) (fun hh => ?_) (fun hh => absurd hh (by omega))
                    refine q_5 rfl ?_
                    first | refine q_31E rfl (by decide) g6 ?_ | refine q_31 rfl (by decide) ?_
                    refine q_0 ?_
                    refine q_neN (by omega) (by omega) (fun hh => absurd hh (by omega)) (fun hh => ?_)
                    refine q_5 rfl ?_
                    refine q_47 (mj_ev_mono _) [] rfl rfl rfl (by decide) rfl rfl rfl ?_
                    refine c_39 (j := j + 1) hP hB g1 g2.1 (fun I2 e2 hT => ?_)
                    have E2 := uta Eqf.rf e2
                    refine q_5 rfl ?_
                    refine q_3 rfl ?_
                    refine q_0 ?_
                    first | refine q_add ?_ | refine q_11 rfl ?_
                    refine q_47 (mj_ev_mono _) [_] rfl rfl rfl (by decide) rfl rfl rfl ?_
                    refine (sub I2 E2 hT ((e2 29 9 rfl).trans g1) (hz.g (e2.to rfl rfl)) _).1 c jf h1 hc (fun I3 s e3 hS3 q2 q3 => ?_)
                    refine q_5 rfl ?_
                    refine q_0 ?_
                    refine q_47 (mj_ev_mono _) [_] rfl rfl rfl (by decide) rfl rfl rfl ?_
                    refine c_43 (Or.inl rfl) hP (hB.fa (E2.tr e3)) hS3 (fun I4 e4 hS4 => ?_)
                    refine q_23 ?_
                    refine q_25 ?_
                    exact kk I4 s (upa (E2.tr e3) e4) hS4 ((e4 25 1 rfl).trans q2) (by omega)
                  · have av := px_adv _ _ _ _ _ _ (Or.inl (by omega)) h1
                    have j2n : j2 ≤ n := by
                      apply Nat.not_lt.mp
                      intro q
                      exact av.2.2 n nj q tK_n
                    by_cases k41 : tK b n j2 = 41
                    · rw [if_pos k41] at h2; cases h2
                    · rw [if_neg k41] at h2
                      cases h2
                      refine q_5 rfl ?_
                      first | refine q_31E rfl (by decide) g6 ?_ | refine q_31 rfl (by decide) ?_
                      refine q_0 ?_
                      refine q_neN (by omega) (by omega) (fun hh => ?_) (fun hh => absurd hh (by omega))
                      refine q_5 rfl ?_
                      first | refine q_31E rfl (by decide) g6 ?_ | refine q_31 rfl (by decide) ?_
                      refine q_0 ?_
                      refine q_neN (by omega) (by omega) (fun hh => ?_) (fun hh => absurd hh (by omega))
                      refine q_5 rfl ?_
                      first | refine q_31E rfl (by decide) g6 ?_ | refine q_31 rfl (by decide) ?_
                      refine q_0 ?_
                      refine q_neN (by omega) (by omega) (fun hh => absurd hh (by omega)) (fun hh => ?_)
                      refine q_5 rfl ?_
                      refine q_47 (mj_ev_mono _) [] rfl rfl rfl (by decide) rfl rfl rfl ?_
                      refine c_39 (j := j + 1) hP hB g1 g2.1 (fun I2 e2 hT => ?_)
                      have E2 := uta Eqf.rf e2
                      refine q_5 rfl ?_
                      refine q_3 rfl ?_
                      refine q_0 ?_
                      first | refine q_add ?_ | refine q_11 rfl ?_
                      refine q_47 (mj_ev_mono _) [_] rfl rfl rfl (by decide) rfl rfl rfl ?_
                      refine (sub I2 E2 hT ((e2 29 9 rfl).trans g1) (hz.g (e2.to rfl rfl)) _).2 jf R h1 (fun I3 e3 hS3 hz3 => ?_)
                      refine q_5 rfl ?_
                      refine q_0 ?_
                      refine q_47 (mj_ev_mono _) [_] rfl rfl rfl (by decide) rfl rfl rfl ?_
                      refine c_43 (Or.inl rfl) hP (hB.fa (E2.tr e3)) hS3 (fun I4 e4 hS4 => ?_)
                      rw [show ovS b n 41 (.inr jf) = .inl (1, jf) from if_neg k41] at hS4
                      refine q_23 ?_
                      refine q_25 ?_
                      exact kk I4 (R0 ++ R).length (upa (E2.tr e3) e4) hS4 ((e4 25 1 rfl).trans hz3.sz) (by rw [List.length_append]; omega)
                · show mj_run (mj_ev (D' + 10)) k52 Q (k52 0) [some (.ref 29), some (.int (nI wi))] [] (107, I, L, P) 0 0
                  obtain ⟨j3, R3, h1, h2⟩ := rb_inr h
                  by_cases k41 : tK b n j3 = 41
                  · rw [if_pos k41] at h2
                    cases h2
                    refine q_5 rfl ?_
                    first | refine q_31E rfl (by decide) g6 ?_ | refine q_31 rfl (by decide) ?_
                    refine q_0 ?_
                    refine q_neN (by omega) (by omega) (fun hh => ?_) (fun hh => absurd hh (by omega))
                    refine q_5 rfl ?_
                    first | refine q_31E rfl (by decide) g6 ?_ | refine q_31 rfl (by decide) ?_
                    refine q_0 ?_
                    refine q_neN (by omega) (by omega) (fun hh => ?_) (fun hh => absurd hh (by omega))
                    refine q_5 rfl ?_
                    first | refine q_31E rfl (by decide) g6 ?_ | refine q_31 rfl (by decide) ?_
                    refine q_0 ?_
                    refine q_neN (by omega) (by omega) (fun hh => absurd hh (by omega)) (fun hh => ?_)
                    refine q_5 rfl ?_
                    refine q_47 (mj_ev_mono _) [] rfl rfl rfl (by decide) rfl rfl rfl ?_
                    refine c_39 (j := j + 1) hP hB g1 g2.1 (fun I2 e2 hT => ?_)
                    have E2 := uta Eqf.rf e2
                    refine q_5 rfl ?_
                    refine q_3 rfl ?_
                    refine q_0 ?_
                    first | refine q_add ?_ | refine q_11 rfl ?_
                    refine q_47 (mj_ev_mono _) [_] rfl rfl rfl (by decide) rfl rfl rfl ?_
                    refine (sub I2 E2 hT ((e2 29 9 rfl).trans g1) (hz.g (e2.to rfl rfl)) _).2 j3 R h1 (fun I3 e3 hS3 hz3 => ?_)
                    refine q_5 rfl ?_
                    refine q_0 ?_
                    refine q_47 (mj_ev_mono _) [_] rfl rfl rfl (by decide) rfl rfl rfl ?_
                    refine c_43 (Or.inl rfl) hP (hB.fa (E2.tr e3)) hS3 (fun I4 e4 hS4 => ?_)
                    rw [show ovS b n 41 (.inr j3) = .inr (j3 + 1) from if_pos k41] at hS4
                    refine q_23 ?_
                    refine q_25 ?_
                    exact kk I4 (upa (E2.tr e3) e4) hS4 (hz3.g e4)
                  · rw [if_neg k41] at h2; cases h2
            · rw [if_neg k40]
              by_cases k19 : tK b n j ≤ 19
              · rw [if_pos k19]
                have jl := t_adv (b := b) (n := n) (j := j) (by omega)
                have jp := t_pos (b := b) (n := n) (j := j) (by omega)
                have bad : (∀ v, mk (tK b n j) = some v → ¬ (lo ≤ v ∧ v ≤ hi)) → ∀ Q : mj_Q, (∀ I' s, Eqf Fa I I' → SC b n (.inl (3, j)) I' → I' 25 1 = nI s → s + 7 * 5 + 35 * wi ≤ 910 → Q (.inl none) (107, I', L, P)) → mj_ev (D' + 11) 52 [.ref 29, .int (nI wi)] (107, I, L, P) Q := by
                  intro hb Q kk
                  have tb : M.testBit (tK b n j) = false := by
                    cases e : M.testBit (tK b n j) with
                    | false => rfl
                    | true =>
                      obtain ⟨v, q1, q2⟩ := (hMk _ k19).mp e
                      exact absurd q2 (hb v q1)
                  refine ⟨rfl, ?_⟩
                  show mj_run (mj_ev (D' + 10)) k52 Q (k52 0) [some (.ref 29), some (.int (nI wi))] [] (107, I, L, P) 0 0
                  refine q_5 rfl ?_
                  first | refine q_31E rfl (by decide) g6 ?_ | refine q_31 rfl (by decide) ?_
                  refine q_0 ?_
                  refine q_neN (by omega) (by omega) (fun hh => ?_) (fun hh => absurd hh (by omega))
                  refine q_5 rfl ?_
                  first | refine q_31E rfl (by decide) g6 ?_ | refine q_31 rfl (by decide) ?_
                  refine q_0 ?_
                  refine q_neN (by omega) (by omega) (fun hh => ?_) (fun hh => absurd hh (by omega))
                  refine q_5 rfl ?_
                  first | refine q_31E rfl (by decide) g6 ?_ | refine q_31 rfl (by decide) ?_
                  refine q_0 ?_
                  refine q_neN (by omega) (by omega) (fun hh => ?_) (fun hh => absurd hh (by omega))
                  refine q_5 rfl ?_
                  refine q_47 (mj_ev_mono _) [] rfl rfl rfl (by decide) rfl rfl rfl ?_
                  refine c_42 g6 (by omega) ?_
                  rw [if_pos k19]
                  first | refine q_neN0 (by omega) (fun hh => ?_) (fun hh => absurd hh (by omega)) | refine q_neI0 (fun hh => ?_) (fun hh => absurd (by omega) hh)
                  refine q_5 rfl ?_
                  first | refine q_31E rfl (by decide) h10 ?_ | refine q_31 rfl (by decide) ?_
                  refine q_5 rfl ?_
                  first | refine q_31E rfl (by decide) g6 ?_ | refine q_31 rfl (by decide) ?_
                  first | refine q_bitT (by assumption) (by omega) (by omega) ?_ | refine q_bitF (by assumption) (by omega) (by omega) ?_ | refine q_bit (by omega) (by omega) ?_ | refine q_bitM (by first | omega | assumption) (by omega) ?_
                  rw [tb, if_neg (by decide)]
                  first | refine q_neN0 (by omega) (fun hh => absurd hh (by omega)) (fun hh => ?_) | refine q_neI0 (fun hh => absurd hh (by omega)) (fun hh => ?_)
                  refine q_5 rfl ?_
                  refine q_0 ?_
                  refine q_47 (mj_ev_mono _) [_] rfl rfl rfl (by decide) rfl rfl rfl ?_
                  refine c_38G g1 g2.2.1 ?_
                  refine q_23 ?_
                  refine q_25 ?_
                  exact kk _ _ (ft 3) (SC_flt (by omega) (by omega)) (fz 3) (by omega)
                cases hm : mk (tK b n j) with
                | none =>
                  refine ⟨fun c jf h hc Q kk => ?_, fun j2 R h => by cases h⟩
                  cases h
                  exact bad (fun v hv => by rw [hm] at hv; cases hv) Q kk
                | some v =>
                  show (∀ c jf, (if lo ≤ v ∧ v ≤ hi then (Sum.inr (j + 1, [(2, v)]) : PR1) else .inl (3, j)) = .inl (c, jf) → _) ∧ (∀ j2 R, (if lo ≤ v ∧ v ≤ hi then (Sum.inr (j + 1, [(2, v)]) : PR1) else .inl (3, j)) = .inr (j2, R) → _)
                  by_cases hv : lo ≤ v ∧ v ≤ hi
                  · rw [if_pos hv]
                    refine ⟨fun c jf h => (by cases h), fun j2 R h Q kk => ⟨rfl, ?_⟩⟩
                    cases h
                    have tb : M.testBit (tK b n j) = true := (hMk _ k19).mpr ⟨v, hm, hv⟩
                    have hkv : tK b n j = kv v := by
                      have h1 := mk_lt hm
                      unfold mk at hm
                      rw [if_pos h1.1] at hm
                      have e2 : mw (tK b n j) = v := Option.some.inj hm
                      have : ∀ k, k < 19 → mw k ≤ 10 → kv (mw k) = k := by decide
                      have := this (tK b n j) h1.1 (by omega)
                      rw [e2] at this
                      exact this.symm
                    have kv9 : kv v < 10000 := by omega
                    show mj_run (mj_ev (D' + 10)) k52 Q (k52 0) [some (.ref 29), some (.int (nI wi))] [] (107, I, L, P) 0 0
                    refine q_5 rfl ?_
                    first | refine q_31E rfl (by decide) g6 ?_ | refine q_31 rfl (by decide) ?_
                    refine q_0 ?_
                    refine q_neN (by omega) (by omega) (fun hh => ?_) (fun hh => absurd hh (by omega))
                    refine q_5 rfl ?_
                    first | refine q_31E rfl (by decide) g6 ?_ | refine q_31 rfl (by decide) ?_
                    refine q_0 ?_
                    refine q_neN (by omega) (by omega) (fun hh => ?_) (fun hh => absurd hh (by omega))
                    refine q_5 rfl ?_
                    first | refine q_31E rfl (by decide) g6 ?_ | refine q_31 rfl (by decide) ?_
                    refine q_0 ?_
                    refine q_neN (by omega) (by omega) (fun hh => ?_) (fun hh => absurd hh (by omega))
                    refine q_5 rfl ?_
                    refine q_47 (mj_ev_mono _) [] rfl rfl rfl (by decide) rfl rfl rfl ?_
                    refine c_42 g6 (by omega) ?_
                    rw [if_pos k19]
                    first | refine q_neN0 (by omega) (fun hh => ?_) (fun hh => absurd hh (by omega)) | refine q_neI0 (fun hh => ?_) (fun hh => absurd (by omega) hh)
                    refine q_5 rfl ?_
                    first | refine q_31E rfl (by decide) h10 ?_ | refine q_31 rfl (by decide) ?_
                    refine q_5 rfl ?_
                    first | refine q_31E rfl (by decide) g6 ?_ | refine q_31 rfl (by decide) ?_
                    first | refine q_bitT (by assumption) (by omega) (by omega) ?_ | refine q_bitF (by assumption) (by omega) (by omega) ?_ | refine q_bit (by omega) (by omega) ?_ | refine q_bitM (by first | omega | assumption) (by omega) ?_
                    rw [tb, if_pos rfl]
                    first | refine q_neN0 (by omega) (fun hh => ?_) (fun hh => absurd hh (by omega)) | refine q_neI0 (fun hh => ?_) (fun hh => absurd (by omega) hh)
                    refine q_5 rfl ?_
                    refine q_33 rfl (by decide) (hP _ _ _ rfl) ?_
                    refine q_33 rfl (by decide) (hP _ _ _ rfl) ?_
                    refine q_0 ?_
                    refine q_5 rfl ?_
                    first | refine q_31E rfl (by decide) g6 ?_ | refine q_31 rfl (by decide) ?_
                    refine q_47 (mj_ev_mono _) [_, _] rfl rfl rfl (by decide) rfl rfl rfl ?_
                    rw [hkv]
                    refine c_61a (q := (2, v)) ⟨by show 1 ≤ 10; omega, kv9⟩ (by omega) hP hz (fun I1 e1 hz1 => ?_)
                    refine q_5 rfl ?_
                    refine q_47 (mj_ev_mono _) [] rfl rfl rfl (by decide) rfl rfl rfl ?_
                    refine c_39 (j := j + 1) hP (hB.fa (usa Eqf.rf e1)) ((e1 29 9 rfl).trans g1) ((e1 29 4 rfl).trans g2.1) (fun I2 e2 hT => ?_)
                    refine q_25 ?_
                    exact kk I2 (uta (usa Eqf.rf e1) e2) ⟨(e2 29 9 rfl).trans ((e1 29 9 rfl).trans g1), hT⟩ (hz1.g (e2.to rfl rfl))
                  · rw [if_neg hv]
                    refine ⟨fun c jf h hc Q kk => ?_, fun j2 R h => by cases h⟩
                    cases h
                    exact bad (fun v' hv' => by rw [hm] at hv'; cases hv'; exact hv) Q kk
              · rw [if_neg k19]
                refine ⟨fun c jf h hc Q kk => ⟨rfl, ?_⟩, fun j2 R h => by cases h⟩
                cases h
                show mj_run (mj_ev (D' + 10)) k52 Q (k52 0) [some (.ref 29), some (.int (nI wi))] [] (107, I, L, P) 0 0
                refine q_5 rfl ?_
                first | refine q_31E rfl (by decide) g6 ?_ | refine q_31 rfl (by decide) ?_
                refine q_0 ?_
                refine q_neN (by omega) (by omega) (fun hh => ?_) (fun hh => absurd hh (by omega))
                refine q_5 rfl ?_
                first | refine q_31E rfl (by decide) g6 ?_ | refine q_31 rfl (by decide) ?_
                refine q_0 ?_
                refine q_neN (by omega) (by omega) (fun hh => ?_) (fun hh => absurd hh (by omega))
                refine q_5 rfl ?_
                first | refine q_31E rfl (by decide) g6 ?_ | refine q_31 rfl (by decide) ?_
                refine q_0 ?_
                refine q_neN (by omega) (by omega) (fun hh => ?_) (fun hh => absurd hh (by omega))
                refine q_5 rfl ?_
                refine q_47 (mj_ev_mono _) [] rfl rfl rfl (by decide) rfl rfl rfl ?_
                refine c_42 g6 (by omega) ?_
                rw [if_neg k19]
                first | refine q_neN0 (by omega) (fun hh => absurd hh (by omega)) (fun hh => ?_) | refine q_neI0 (fun hh => absurd hh (by omega)) (fun hh => ?_)
                refine q_5 rfl ?_
                refine q_0 ?_
                refine q_47 (mj_ev_mono _) [_] rfl rfl rfl (by decide) rfl rfl rfl ?_
                refine c_38G g1 g2.2.1 ?_
                refine q_23 ?_
                refine q_25 ?_
                exact kk _ _ (ft 1) (SC_flt (by omega) (by omega)) (fz 1) (by omega)
        refine ⟨fun c jf h hc kk => ⟨rfl, ?_⟩, fun j2 R h kk => ⟨rfl, ?_⟩⟩
        · show mj_run (mj_ev (D' + 11)) k49 Q (k49 0) [some (.ref 29), some (.int (nI 5)), some (.int (nI wi)), none, none, none, none] [] (107, I, L, P) 0 0
          refine q_3 rfl ?_
          refine q_0 ?_
          refine q_leN (by omega) (by omega) (fun hh => absurd hh (by omega)) (fun hh => ?_)
          refine q_5 rfl ?_
          refine q_3 rfl ?_
          refine q_47 (mj_ev_mono _) [_] rfl rfl rfl (by decide) rfl rfl rfl ?_
          refine part.1 c jf h hc _ (fun I' s e1 q1 q2 q3 => ?_)
          refine q_25 ?_
          exact kk I' s e1 q1 q2 q3
        · show mj_run (mj_ev (D' + 11)) k49 Q (k49 0) [some (.ref 29), some (.int (nI 5)), some (.int (nI wi)), none, none, none, none] [] (107, I, L, P) 0 0
          refine q_3 rfl ?_
          refine q_0 ?_
          refine q_leN (by omega) (by omega) (fun hh => absurd hh (by omega)) (fun hh => ?_)
          refine q_5 rfl ?_
          refine q_3 rfl ?_
          refine q_47 (mj_ev_mono _) [_] rfl rfl rfl (by decide) rfl rfl rfl ?_
          refine part.2 j2 R h _ (fun I' e1 q1 q2 => ?_)
          refine q_25 ?_
          exact kk I' e1 q1 q2
      · have l4 : l ≤ 4 := by omega
        have inn : ∀ {f md wi j j2 R}, isM md → j ≤ n → px (tK b n) (tV b n) (tD b n) lo hi f md wi j = .inr (j2, R) → j2 ≤ n ∧ R.length + j ≤ j2 ∧ (md ≤ 5 → j < j2) := fun {f md wi j j2 R} h1 h2 h3 => by
          obtain ⟨a1, a2, a3⟩ := px_adv f md wi j j2 R h1 h3
          refine ⟨?_, a2, a1⟩
          apply Nat.not_lt.mp
          intro q
          exact a3 n h2 q tK_n
        by_cases l2 : l = 2
        · subst l2
          rw [px_2]
          have n7 := nts_le (K := tK b n) (c := 7) (j := j)
          by_cases q7 : nts (tK b n) 7 j = 7
          · rw [if_pos q7]
            refine ⟨fun c jf h hc kk => ⟨rfl, ?_⟩, fun j2 R h => by cases h⟩
            cases h
            show mj_run (mj_ev (D' + 11)) k49 Q (k49 0) [some (.ref 29), some (.int (nI 2)), some (.int (nI wi)), none, none, none, none] [] (107, I, L, P) 0 0
            refine q_3 rfl ?_
            refine q_0 ?_
            refine q_leN (by omega) (by omega) (fun hh => ?_) (fun hh => absurd hh (by omega))
            refine q_3 rfl ?_
            refine q_0 ?_
            refine q_neN (by omega) (by omega) (fun hh => absurd hh (by omega)) (fun hh => ?_)
            refine q_5 rfl ?_
            refine q_47 (mj_ev_mono _) [] rfl rfl rfl (by decide) rfl rfl rfl ?_
            refine c_50 hP hB hS' (fun h => absurd h (by omega)) (fun _ I1 e1 q1 => ?_)
            have E1 := upa Eqf.rf e1
            refine q_23 ?_
            refine q_6 rfl rfl rfl ?_
            refine q_5 rfl ?_
            refine q_3 rfl ?_
            refine q_0 ?_
            first | refine q_add ?_ | refine q_11 rfl ?_
            refine q_3 rfl ?_
            refine q_47 (mj_ev_mono _) [_, _] rfl rfl rfl (by decide) rfl rfl rfl ?_
            refine c_49aB (d := D' + 6) hP 2 3 rfl I1 _ q1 ((e1 25 1 rfl).trans hzn) (by omega) (fun I2 e2 q2 q3 => ?_)
            refine q_3 rfl ?_
            refine q_0 ?_
            refine q_neN (by omega) (by omega) (fun hh => absurd hh (by omega)) (fun hh => ?_)
            refine q_0 ?_
            refine q_23 ?_
            refine q_6 rfl rfl rfl ?_
            refine q_0 ?_
            refine q_6 rfl rfl rfl ?_
            exact exaB (na := 6) (lim := 1) (turn := 0) hP (by omega) q2.2.2.2.2 q3 (by omega) (by omega) (by omega) (fun I3 e3 h3 => kk I3 _ (usa (E1.tr e2) e3) (q2.sa e3) h3 (by omega)) _ _
          · rw [if_neg q7]
            have jna : j + nts (tK b n) 7 j ≤ n := by
              apply Nat.not_lt.mp
              intro q
              exact nts_21 (c := 7) hjn q tK_n
            generalize hna : nts (tK b n) 7 j = na at *
            have na6 : na ≤ 6 := by omega
            have c50 : ∀ Q2 : mj_Q, (∀ I', Eqf (frm [] rdG) I I' → SC b n (.inr (j + na)) I' → Q2 (.inl (some (.int (nI na)))) (107, I', L, P)) → mj_ev (D' + 11) 50 [.ref 29] (107, I, L, P) Q2 := fun Q2 h => c_50 (d := D' + 4) hP hB hS' (fun _ I' e q => by rw [hna] at q ⊢; exact h I' e q) (fun h2 => absurd h2 (by omega))
            -- the second part
            have two : ∀ j2 R I1, j2 ≤ n → R.length + (j + na) ≤ j2 → Eqf Fa I I1 → SC b n (.inr j2) I1 → SZa (R0 ++ R) I1 → ∀ x6,
                (∀ c jf t, jn 2 (tK b n j2) = some t → px (tK b n) (tV b n) (tD b n) lo hi f 3 wi (j2 + 1) = .inl (c, jf) → c ≠ 99 → (∀ I' s, Eqf Fa I I' → SC b n (.inl (c, jf)) I' → I' 25 1 = nI s → s + 7 * 2 + 35 * wi ≤ 910 → Q (.inl none) (107, I', L, P)) → mj_run (mj_ev (D' + 11)) k49 Q (k49 50) [some (.ref 29), some (.int (nI 2)), some (.int (nI wi)), some (.int (nI na)), some (.int (nI 1)), some (.int (nI 0)), x6] [] (107, I1, L, P) 0 0)
                ∧ (∀ j3 R3 t, jn 2 (tK b n j2) = some t → px (tK b n) (tV b n) (tD b n) lo hi f 3 wi (j2 + 1) = .inr (j3, R3) → (∀ I', Eqf Fa I I' → SC b n (.inr j3) I' → SZa (R0 ++ (R ++ R3 ++ (t, 0) :: List.replicate na (3, 0))) I' → Q (.inl none) (107, I', L, P)) → mj_run (mj_ev (D' + 11)) k49 Q (k49 50) [some (.ref 29), some (.int (nI 2)), some (.int (nI wi)), some (.int (nI na)), some (.int (nI 1)), some (.int (nI 0)), x6] [] (107, I1, L, P) 0 0)
                ∧ (jn 2 (tK b n j2) = none → (∀ I', Eqf Fa I I' → SC b n (.inr j2) I' → SZa (R0 ++ (R ++ List.replicate na (3, 0))) I' → Q (.inl none) (107, I', L, P)) → mj_run (mj_ev (D' + 11)) k49 Q (k49 50) [some (.ref 29), some (.int (nI 2)), some (.int (nI wi)), some (.int (nI na)), some (.int (nI 1)), some (.int (nI 0)), x6] [] (107, I1, L, P) 0 0) := by
              intro j2 R I1 j2n hRl E1 hS1 hz1 x6
              have hS1' := hS1
              obtain ⟨u1, u2⟩ := hS1
              have u6 := u2.kd
              have kl2 := tK_lt (b := b) (n := n) (j := j2) (fun i hi => (hB.1 i hi).2)
              have hB1 := hB.fa E1
              have ln1 : (R0 ++ R).length = R0.length + R.length := List.length_append
              refine ⟨fun c jf t ht h hc kk => ?_, fun j3 R3 t ht h kk => ?_, fun hn kk => ?_⟩
              · have tj := jn_4 ht
                have nj : j2 + 1 ≤ n := by
                  have : j2 ≠ n := fun z => jn_21 ht (by rw [z]; exact tK_n)
                  omega
                refine q_3 rfl ?_
                refine q_3 rfl ?_
                refine q_geN (by omega) (by omega) (fun hh => absurd hh (by omega)) (fun hh => ?_)
                refine q_5 rfl ?_
                refine q_3 rfl ?_
                refine q_47 (mj_ev_mono _) [_] rfl rfl rfl (by decide) rfl rfl rfl ?_
                refine c_51 u6 kl2 (by omega) ?_
                rw [jI_some ht]
                refine q_1 ?_
                refine q_eqI (fun z => absurd z (kd_ne t tj.2)) (fun _ => ?_)
                refine q_5 rfl ?_
                refine q_3 rfl ?_
                refine q_47 (mj_ev_mono _) [_] rfl rfl rfl (by decide) rfl rfl rfl ?_
                refine c_51 u6 kl2 (by omega) ?_
                rw [jI_some ht]
                refine q_6 rfl rfl rfl ?_
                refine q_5 rfl ?_
                refine q_47 (mj_ev_mono _) [] rfl rfl rfl (by decide) rfl rfl rfl ?_
                refine c_39 (j := j2 + 1) hP hB1 u1 u2.1 (fun I2 e2 hT => ?_)
                have E2 := uta E1 e2
                refine q_5 rfl ?_
                refine q_3 rfl ?_
                refine q_0 ?_
                first | refine q_add ?_ | refine q_11 rfl ?_
                refine q_3 rfl ?_
                refine q_47 (mj_ev_mono _) [_, _] rfl rfl rfl (by decide) rfl rfl rfl ?_
                refine (ihL 3 (by omega) wi hwi (j2 + 1) (R0 ++ R) I2 _ (D' + 11) (by omega) nj (by omega) (hB.fa E2) ((E2 29 10 rfl).trans h10) ⟨(e2 29 9 rfl).trans u1, hT⟩ (hz1.g (e2.to rfl rfl))).1 c jf h hc (fun I3 s e3 q1 q2 q3 => ?_)
                refine q_5 rfl ?_
                refine q_33 rfl (by decide) (hP _ _ _ rfl) ?_
                refine q_33 rfl (by decide) (hP _ _ _ rfl) ?_
                refine q_3 rfl ?_
                refine q_0 ?_
                refine q_47 (mj_ev_mono _) [_, _] rfl rfl rfl (by decide) rfl rfl rfl ?_
                refine c_61aF (s := s) hP q2 (by omega) (fun I4 e4 q4 => ?_)
                first | refine q_inc rfl rfl rfl ?_ | refine q_9 rfl rfl rfl ?_
                refine q_23 ?_
                exact exaB (na := na) (lim := 1) (turn := 1) hP (by omega) (q1.sa e4).2.2.2.2 q4 (by omega) (by omega) (by omega) (fun I5 e5 h5 => kk I5 _ (usa (usa (E2.tr e3) e4) e5) ((q1.sa e4).sa e5) h5 (by omega)) _ _
              · have tj := jn_4 ht
                have nj : j2 + 1 ≤ n := by
                  have : j2 ≠ n := fun z => jn_21 ht (by rw [z]; exact tK_n)
                  omega
                obtain ⟨v1, v2, v3⟩ := inn (Or.inl (by omega)) nj h
                have gx : ∀ I4 y6, mj_run (mj_ev (D' + 11)) k49 Q (k49 104) [some (.ref 29), some (.int (nI 2)), some (.int (nI wi)), some (.int (nI na)), some (.int (nI 1)), some (.int (nI 1)), y6] [] (107, I4, L, P) 0 0 → mj_run (mj_ev (D' + 11)) k49 Q (k49 50) [some (.ref 29), some (.int (nI 2)), some (.int (nI wi)), some (.int (nI na)), some (.int (nI 1)), some (.int (nI 1)), y6] [] (107, I4, L, P) 0 0 := by
                  intro I4 y6 hk
                  refine q_3 rfl ?_
                  refine q_3 rfl ?_
                  refine q_geN (by omega) (by omega) (fun hh => ?_) (fun hh => absurd hh (by omega))
                  exact hk
                have ln2 : (R0 ++ R ++ R3).length = R0.length + R.length + R3.length := by rw [List.length_append, ln1]
                have ln3 : (R0 ++ R ++ R3 ++ [(t, 0)]).length = R0.length + R.length + R3.length + 1 := by rw [List.length_append, ln2]; rfl
                refine q_3 rfl ?_
                refine q_3 rfl ?_
                refine q_geN (by omega) (by omega) (fun hh => absurd hh (by omega)) (fun hh => ?_)
                refine q_5 rfl ?_
                refine q_3 rfl ?_
                refine q_47 (mj_ev_mono _) [_] rfl rfl rfl (by decide) rfl rfl rfl ?_
                refine c_51 u6 kl2 (by omega) ?_
                rw [jI_some ht]
                refine q_1 ?_
                refine q_eqI (fun z => absurd z (kd_ne t tj.2)) (fun _ => ?_)
                refine q_5 rfl ?_
                refine q_3 rfl ?_
                refine q_47 (mj_ev_mono _) [_] rfl rfl rfl (by decide) rfl rfl rfl ?_
                refine c_51 u6 kl2 (by omega) ?_
                rw [jI_some ht]
                refine q_6 rfl rfl rfl ?_
                refine q_5 rfl ?_
                refine q_47 (mj_ev_mono _) [] rfl rfl rfl (by decide) rfl rfl rfl ?_
                refine c_39 (j := j2 + 1) hP hB1 u1 u2.1 (fun I2 e2 hT => ?_)
                have E2 := uta E1 e2
                refine q_5 rfl ?_
                refine q_3 rfl ?_
                refine q_0 ?_
                first | refine q_add ?_ | refine q_11 rfl ?_
                refine q_3 rfl ?_
                refine q_47 (mj_ev_mono _) [_, _] rfl rfl rfl (by decide) rfl rfl rfl ?_
                refine (ihL 3 (by omega) wi hwi (j2 + 1) (R0 ++ R) I2 _ (D' + 11) (by omega) nj (by omega) (hB.fa E2) ((E2 29 10 rfl).trans h10) ⟨(e2 29 9 rfl).trans u1, hT⟩ (hz1.g (e2.to rfl rfl))).2 j3 R3 h (fun I3 e3 q1 q2 => ?_)
                refine q_5 rfl ?_
                refine q_33 rfl (by decide) (hP _ _ _ rfl) ?_
                refine q_33 rfl (by decide) (hP _ _ _ rfl) ?_
                refine q_3 rfl ?_
                refine q_0 ?_
                refine q_47 (mj_ev_mono _) [_, _] rfl rfl rfl (by decide) rfl rfl rfl ?_
                refine j61a tj.1 tj.2 (by omega) hP q2 (fun I4 e4 q4 => ?_)
                first | refine q_inc rfl rfl rfl ?_ | refine q_9 rfl rfl rfl ?_
                refine q_23 ?_
                exact gx I4 _ (ntaG hP q4 (by omega) (fun I5 e5 h5 => kk I5 (usa (usa (E2.tr e3) e4) e5) ((q1.sa e4).sa e5) (by simp only [List.append_assoc, List.cons_append, List.nil_append] at h5 ⊢; exact h5)) _ _ _ _ _)
              · refine q_3 rfl ?_
                refine q_3 rfl ?_
                refine q_geN (by omega) (by omega) (fun hh => absurd hh (by omega)) (fun hh => ?_)
                refine q_5 rfl ?_
                refine q_3 rfl ?_
                refine q_47 (mj_ev_mono _) [_] rfl rfl rfl (by decide) rfl rfl rfl ?_
                refine c_51 u6 kl2 (by omega) ?_
                rw [jI_none hn]
                refine q_1 ?_
                refine q_eqI (fun _ => ?_) (fun z => absurd rfl z)
                exact ntaG hP hz1 (by omega) (fun I5 e5 h5 => kk I5 (usa E1 e5) (hS1'.sa e5) (by rw [List.append_assoc] at h5; exact h5)) _ _ _ _ _
            refine ⟨fun c jf h hc kk => ⟨rfl, ?_⟩, fun j2 R h kk => ⟨rfl, ?_⟩⟩
            · show mj_run (mj_ev (D' + 11)) k49 Q (k49 0) [some (.ref 29), some (.int (nI 2)), some (.int (nI wi)), none, none, none, none] [] (107, I, L, P) 0 0
              rcases rb_inl h with h1 | ⟨j2, R, h1, h2⟩
              · refine q_3 rfl ?_
                refine q_0 ?_
                refine q_leN (by omega) (by omega) (fun hh => ?_) (fun hh => absurd hh (by omega))
                refine q_3 rfl ?_
                refine q_0 ?_
                refine q_neN (by omega) (by omega) (fun hh => absurd hh (by omega)) (fun hh => ?_)
                refine q_5 rfl ?_
                refine q_47 (mj_ev_mono _) [] rfl rfl rfl (by decide) rfl rfl rfl ?_
                refine c50 _ (fun I1 e1 q1 => ?_)
                have E1 := upa Eqf.rf e1
                refine q_23 ?_
                refine q_6 rfl rfl rfl ?_
                refine q_5 rfl ?_
                refine q_3 rfl ?_
                refine q_0 ?_
                first | refine q_add ?_ | refine q_11 rfl ?_
                refine q_3 rfl ?_
                refine q_47 (mj_ev_mono _) [_, _] rfl rfl rfl (by decide) rfl rfl rfl ?_
                refine (ihL 3 (by omega) wi hwi (j + na) R0 I1 _ (D' + 11) (by omega) jna (by omega) (hB.fa E1) ((E1 29 10 rfl).trans h10) q1 (hz.g e1)).1 c jf h1 hc (fun I2 s e2 q2 q3 q4 => ?_)
                refine q_3 rfl ?_
                refine q_0 ?_
                refine q_neN (by omega) (by omega) (fun hh => absurd hh (by omega)) (fun hh => ?_)
                refine q_0 ?_
                refine q_23 ?_
                refine q_6 rfl rfl rfl ?_
                refine q_0 ?_
                refine q_6 rfl rfl rfl ?_
                exact exaB (na := na) (lim := 1) (turn := 0) hP (by omega) q2.2.2.2.2 q3 (by omega) (by omega) (by omega) (fun I3 e3 h3 => kk I3 _ (usa (E1.tr e2) e3) (q2.sa e3) h3 (by omega)) _ _
              · obtain ⟨v1, v2, v3⟩ := inn (Or.inl (by omega)) jna h1
                cases hj : jn 2 (tK b n j2) with
                | none => rw [hj] at h2; cases h2
                | some t =>
                  rw [hj] at h2
                  rcases rb_inl h2 with h3 | ⟨j3, R3, -, h4⟩
                  · refine q_3 rfl ?_
                    refine q_0 ?_
                    refine q_leN (by omega) (by omega) (fun hh => ?_) (fun hh => absurd hh (by omega))
                    refine q_3 rfl ?_
                    refine q_0 ?_
                    refine q_neN (by omega) (by omega) (fun hh => absurd hh (by omega)) (fun hh => ?_)
                    refine q_5 rfl ?_
                    refine q_47 (mj_ev_mono _) [] rfl rfl rfl (by decide) rfl rfl rfl ?_
                    refine c50 _ (fun I1 e1 q1 => ?_)
                    have E1 := upa Eqf.rf e1
                    refine q_23 ?_
                    refine q_6 rfl rfl rfl ?_
                    refine q_5 rfl ?_
                    refine q_3 rfl ?_
                    refine q_0 ?_
                    first | refine q_add ?_ | refine q_11 rfl ?_
                    refine q_3 rfl ?_
                    refine q_47 (mj_ev_mono _) [_, _] rfl rfl rfl (by decide) rfl rfl rfl ?_
                    refine (ihL 3 (by omega) wi hwi (j + na) R0 I1 _ (D' + 11) (by omega) jna (by omega) (hB.fa E1) ((E1 29 10 rfl).trans h10) q1 (hz.g e1)).2 j2 R h1 (fun I2 e2 q2 q3 => ?_)
                    refine q_3 rfl ?_
                    refine q_0 ?_
                    refine q_neN (by omega) (by omega) (fun hh => absurd hh (by omega)) (fun hh => ?_)
                    refine q_0 ?_
                    refine q_23 ?_
                    refine q_6 rfl rfl rfl ?_
                    refine q_0 ?_
                    refine q_6 rfl rfl rfl ?_
                    exact (two j2 R I2 v1 v2 (E1.tr e2) q2 q3 _).1 c jf t hj h3 hc kk
                  · cases h4
            · show mj_run (mj_ev (D' + 11)) k49 Q (k49 0) [some (.ref 29), some (.int (nI 2)), some (.int (nI wi)), none, none, none, none] [] (107, I, L, P) 0 0
              obtain ⟨j3, R3, h1, h2⟩ := rb_inr h
              obtain ⟨v1, v2, v3⟩ := inn (Or.inl (by omega)) jna h1
              cases hj : jn 2 (tK b n j3) with
              | none =>
                rw [hj] at h2
                cases h2
                refine q_3 rfl ?_
                refine q_0 ?_
                refine q_leN (by omega) (by omega) (fun hh => ?_) (fun hh => absurd hh (by omega))
                refine q_3 rfl ?_
                refine q_0 ?_
                refine q_neN (by omega) (by omega) (fun hh => absurd hh (by omega)) (fun hh => ?_)
                refine q_5 rfl ?_
                refine q_47 (mj_ev_mono _) [] rfl rfl rfl (by decide) rfl rfl rfl ?_
                refine c50 _ (fun I1 e1 q1 => ?_)
                have E1 := upa Eqf.rf e1
                refine q_23 ?_
                refine q_6 rfl rfl rfl ?_
                refine q_5 rfl ?_
                refine q_3 rfl ?_
                refine q_0 ?_
                first | refine q_add ?_ | refine q_11 rfl ?_
                refine q_3 rfl ?_
                refine q_47 (mj_ev_mono _) [_, _] rfl rfl rfl (by decide) rfl rfl rfl ?_
                refine (ihL 3 (by omega) wi hwi (j + na) R0 I1 _ (D' + 11) (by omega) jna (by omega) (hB.fa E1) ((E1 29 10 rfl).trans h10) q1 (hz.g e1)).2 j2 R3 h1 (fun I2 e2 q2 q3 => ?_)
                refine q_3 rfl ?_
                refine q_0 ?_
                refine q_neN (by omega) (by omega) (fun hh => absurd hh (by omega)) (fun hh => ?_)
                refine q_0 ?_
                refine q_23 ?_
                refine q_6 rfl rfl rfl ?_
                refine q_0 ?_
                refine q_6 rfl rfl rfl ?_
                exact (two j2 R3 I2 v1 v2 (E1.tr e2) q2 q3 _).2.2 hj kk
              | some t =>
                rw [hj] at h2
                obtain ⟨j4, R4, h3, h4⟩ := rb_inr h2
                cases h4
                refine q_3 rfl ?_
                refine q_0 ?_
                refine q_leN (by omega) (by omega) (fun hh => ?_) (fun hh => absurd hh (by omega))
                refine q_3 rfl ?_
                refine q_0 ?_
                refine q_neN (by omega) (by omega) (fun hh => absurd hh (by omega)) (fun hh => ?_)
                refine q_5 rfl ?_
                refine q_47 (mj_ev_mono _) [] rfl rfl rfl (by decide) rfl rfl rfl ?_
                refine c50 _ (fun I1 e1 q1 => ?_)
                have E1 := upa Eqf.rf e1
                refine q_23 ?_
                refine q_6 rfl rfl rfl ?_
                refine q_5 rfl ?_
                refine q_3 rfl ?_
                refine q_0 ?_
                first | refine q_add ?_ | refine q_11 rfl ?_
                refine q_3 rfl ?_
                refine q_47 (mj_ev_mono _) [_, _] rfl rfl rfl (by decide) rfl rfl rfl ?_
                refine (ihL 3 (by omega) wi hwi (j + na) R0 I1 _ (D' + 11) (by omega) jna (by omega) (hB.fa E1) ((E1 29 10 rfl).trans h10) q1 (hz.g e1)).2 j3 R3 h1 (fun I2 e2 q2 q3 => ?_)
                refine q_3 rfl ?_
                refine q_0 ?_
                refine q_neN (by omega) (by omega) (fun hh => absurd hh (by omega)) (fun hh => ?_)
                refine q_0 ?_
                refine q_23 ?_
                refine q_6 rfl rfl rfl ?_
                refine q_0 ?_
                refine q_6 rfl rfl rfl ?_
                exact (two j3 R3 I2 v1 v2 (E1.tr e2) q2 q3 _).2.1 j2 R4 t hj h3 kk
        · have hl : l = 0 ∨ l = 1 ∨ l = 3 ∨ l = 4 := by omega
          rw [px_L hl]
          refine ⟨fun c jf h hc kk => ⟨rfl, ?_⟩, fun j2 R h kk => ⟨rfl, ?_⟩⟩
          · show mj_run (mj_ev (D' + 11)) k49 Q (k49 0) [some (.ref 29), some (.int (nI l)), some (.int (nI wi)), none, none, none, none] [] (107, I, L, P) 0 0
            rcases rb_inl h with h1 | ⟨j2, R, h1, h2⟩
            · refine q_3 rfl ?_
              refine q_0 ?_
              refine q_leN (by omega) (by omega) (fun hh => ?_) (fun hh => absurd hh (by omega))
              refine q_3 rfl ?_
              refine q_0 ?_
              refine q_neN (by omega) (by omega) (fun hh => ?_) (fun hh => absurd hh (by omega))
              refine q_0 ?_
              refine q_6 rfl rfl rfl ?_
              refine q_5 rfl ?_
              refine q_3 rfl ?_
              refine q_0 ?_
              first | refine q_add ?_ | refine q_11 rfl ?_
              refine q_3 rfl ?_
              refine q_47 (mj_ev_mono _) [_, _] rfl rfl rfl (by decide) rfl rfl rfl ?_
              refine (ihL (l + 1) (by omega) wi hwi j R0 I _ (D' + 11) (by omega) hjn hR0 hB h10 hS' hz).1 c jf h1 hc (fun I' s e1 q1 q2 q3 => ?_)
              refine q_3 rfl ?_
              refine q_0 ?_
              refine q_neN (by omega) (by omega) (fun hh => ?_) (fun hh => absurd hh (by omega))
              refine q_0 ?_
              refine q_6 rfl rfl rfl ?_
              refine q_0 ?_
              refine q_6 rfl rfl rfl ?_
              exact exaB (na := 0) (lim := 700) (turn := 0) hP l4 q1.2.2.2.2 q2 (by omega) (by omega) (by omega) (fun I2 e2 h3 => kk I2 s (usa e1 e2) (q1.sa e2) h3 (by omega)) _ _
            · obtain ⟨v1, v2, v3⟩ := inn (Or.inl (by omega)) hjn h1
              rcases rb_inl h2 with h3 | ⟨j3, R3, -, h4⟩
              · refine q_3 rfl ?_
                refine q_0 ?_
                refine q_leN (by omega) (by omega) (fun hh => ?_) (fun hh => absurd hh (by omega))
                refine q_3 rfl ?_
                refine q_0 ?_
                refine q_neN (by omega) (by omega) (fun hh => ?_) (fun hh => absurd hh (by omega))
                refine q_0 ?_
                refine q_6 rfl rfl rfl ?_
                refine q_5 rfl ?_
                refine q_3 rfl ?_
                refine q_0 ?_
                first | refine q_add ?_ | refine q_11 rfl ?_
                refine q_3 rfl ?_
                refine q_47 (mj_ev_mono _) [_, _] rfl rfl rfl (by decide) rfl rfl rfl ?_
                refine (ihL (l + 1) (by omega) wi hwi j R0 I _ (D' + 11) (by omega) hjn hR0 hB h10 hS' hz).2 j2 R h1 (fun I' e1 q1 q2 => ?_)
                refine q_3 rfl ?_
                refine q_0 ?_
                refine q_neN (by omega) (by omega) (fun hh => ?_) (fun hh => absurd hh (by omega))
                refine q_0 ?_
                refine q_6 rfl rfl rfl ?_
                refine q_0 ?_
                refine q_6 rfl rfl rfl ?_
                exact (ihT l hl wi hwi j2 (R0 ++ R) I' Q (D' + 11) 0 _ (by omega) v1 (by rw [List.length_append]; omega) (by omega) (hB.fa e1) ((e1 29 10 rfl).trans h10) q1 q2).1 c jf h3 hc (fun I2 s e2 q3 q4 q5 => kk I2 s (e1.tr e2) q3 q4 q5)
              · cases h4
          · show mj_run (mj_ev (D' + 11)) k49 Q (k49 0) [some (.ref 29), some (.int (nI l)), some (.int (nI wi)), none, none, none, none] [] (107, I, L, P) 0 0
            obtain ⟨j3, R3, h1, h2⟩ := rb_inr h
            obtain ⟨j4, R4, h3, h4⟩ := rb_inr h2
            cases h4
            obtain ⟨v1, v2, v3⟩ := inn (Or.inl (by omega)) hjn h1
            refine q_3 rfl ?_
            refine q_0 ?_
            refine q_leN (by omega) (by omega) (fun hh => ?_) (fun hh => absurd hh (by omega))
            refine q_3 rfl ?_
            refine q_0 ?_
            refine q_neN (by omega) (by omega) (fun hh => ?_) (fun hh => absurd hh (by omega))
            refine q_0 ?_
            refine q_6 rfl rfl rfl ?_
            refine q_5 rfl ?_
            refine q_3 rfl ?_
            refine q_0 ?_
            first | refine q_add ?_ | refine q_11 rfl ?_
            refine q_3 rfl ?_
            refine q_47 (mj_ev_mono _) [_, _] rfl rfl rfl (by decide) rfl rfl rfl ?_
            refine (ihL (l + 1) (by omega) wi hwi j R0 I _ (D' + 11) (by omega) hjn hR0 hB h10 hS' hz).2 j3 R3 h1 (fun I' e1 q1 q2 => ?_)
            refine q_3 rfl ?_
            refine q_0 ?_
            refine q_neN (by omega) (by omega) (fun hh => ?_) (fun hh => absurd hh (by omega))
            refine q_0 ?_
            refine q_6 rfl rfl rfl ?_
            refine q_0 ?_
            refine q_6 rfl rfl rfl ?_
            exact (ihT l hl wi hwi j3 (R0 ++ R3) I' Q (D' + 11) 0 _ (by omega) v1 (by rw [List.length_append]; omega) (by omega) (hB.fa e1) ((e1 29 10 rfl).trans h10) q1 q2).2 j2 R4 h3 (fun I2 e2 q3 q4 => kk I2 (e1.tr e2) q3 (by rw [List.append_assoc] at q4; exact q4))
    · intro l hl wi hwi j R0 I Q D turn x6 hD hjn hR0 ht hB h10 hS hz
      obtain ⟨D', rfl⟩ : ∃ D', D = D' + 11 := ⟨D - 11, by omega⟩
      have hn7 := hB.2.1
      have l4 : l ≤ 4 := by omega
      have kl := tK_lt (b := b) (n := n) (j := j) (fun i hi => (hB.1 i hi).2)
      have hS' := hS
      obtain ⟨g1, g2⟩ := hS
      have g6 := g2.kd
      rw [px_T hl]
      cases hj : jn l (tK b n j) with
      | none =>
        refine ⟨fun c jf h => (by cases h), fun j2 R h kk => ?_⟩
        cases h
        have fin : ∀ x4 x5, mj_run (mj_ev (D' + 11)) k49 Q (k49 104) [some (.ref 29), some (.int (nI l)), some (.int (nI wi)), some (.int (nI 0)), some (.int x4), x5, x6] [] (107, I, L, P) 0 0 := fun x4 x5 => ntaG (na := 0) hP hz (by omega) (fun I5 e5 h5 => kk I5 (usa Eqf.rf e5) (hS'.sa e5) h5) _ _ _ _ _
        by_cases c7 : 700 ≤ turn
        · refine q_3 rfl ?_
          refine q_3 rfl ?_
          refine q_geN (by omega) (by omega) (fun hh => ?_) (fun hh => absurd hh (by omega))
          exact fin _ _
        · refine q_3 rfl ?_
          refine q_3 rfl ?_
          refine q_geN (by omega) (by omega) (fun hh => absurd hh (by omega)) (fun hh => ?_)
          refine q_5 rfl ?_
          refine q_3 rfl ?_
          refine q_47 (mj_ev_mono _) [_] rfl rfl rfl (by decide) rfl rfl rfl ?_
          refine c_51 g6 kl l4 ?_
          rw [jI_none hj]
          refine q_1 ?_
          refine q_eqI (fun _ => ?_) (fun z => absurd rfl z)
          exact fin _ _
      | some t =>
        have tj := jn_4 hj
        have nj : j + 1 ≤ n := by
          have : j ≠ n := fun z => jn_21 hj (by rw [z]; exact tK_n)
          omega
        refine ⟨fun c jf h hc kk => ?_, fun j2 R h kk => ?_⟩
        · rcases rb_inl h with h1 | ⟨j2, R, h1, h2⟩
          · refine q_3 rfl ?_
            refine q_3 rfl ?_
            refine q_geN (by omega) (by omega) (fun hh => absurd hh (by omega)) (fun hh => ?_)
            refine q_5 rfl ?_
            refine q_3 rfl ?_
            refine q_47 (mj_ev_mono _) [_] rfl rfl rfl (by decide) rfl rfl rfl ?_
            refine c_51 g6 kl l4 ?_
            rw [jI_some hj]
            refine q_1 ?_
            refine q_eqI (fun z => absurd z (kd_ne t tj.2)) (fun _ => ?_)
            refine q_5 rfl ?_
            refine q_3 rfl ?_
            refine q_47 (mj_ev_mono _) [_] rfl rfl rfl (by decide) rfl rfl rfl ?_
            refine c_51 g6 kl l4 ?_
            rw [jI_some hj]
            refine q_6 rfl rfl rfl ?_
            refine q_5 rfl ?_
            refine q_47 (mj_ev_mono _) [] rfl rfl rfl (by decide) rfl rfl rfl ?_
            refine c_39 (j := j + 1) hP hB g1 g2.1 (fun I2 e2 hT => ?_)
            have E2 := uta Eqf.rf e2
            refine q_5 rfl ?_
            refine q_3 rfl ?_
            refine q_0 ?_
            first | refine q_add ?_ | refine q_11 rfl ?_
            refine q_3 rfl ?_
            refine q_47 (mj_ev_mono _) [_, _] rfl rfl rfl (by decide) rfl rfl rfl ?_
            refine (ihL (l + 1) (by omega) wi hwi (j + 1) R0 I2 _ (D' + 11) (by omega) nj (by omega) (hB.fa E2) ((E2 29 10 rfl).trans h10) ⟨(e2 29 9 rfl).trans g1, hT⟩ (hz.g (e2.to rfl rfl))).1 c jf h1 hc (fun I3 s e3 q1 q2 q3 => ?_)
            refine q_5 rfl ?_
            refine q_33 rfl (by decide) (hP _ _ _ rfl) ?_
            refine q_33 rfl (by decide) (hP _ _ _ rfl) ?_
            refine q_3 rfl ?_
            refine q_0 ?_
            refine q_47 (mj_ev_mono _) [_, _] rfl rfl rfl (by decide) rfl rfl rfl ?_
            refine c_61aF (s := s) hP q2 (by omega) (fun I4 e4 q4 => ?_)
            first | refine q_inc rfl rfl rfl ?_ | refine q_9 rfl rfl rfl ?_
            refine q_23 ?_
            exact exaB (na := 0) (lim := 700) (turn := turn + 1) hP l4 (q1.sa e4).2.2.2.2 q4 (by omega) (by omega) (by omega) (fun I5 e5 h5 => kk I5 _ (usa (usa (E2.tr e3) e4) e5) ((q1.sa e4).sa e5) h5 (by omega)) _ _
          · obtain ⟨a1, a2, a3⟩ := px_adv f (l + 1) wi (j + 1) j2 R (Or.inl (by omega)) h1
            have v1 : j2 ≤ n := by
              apply Nat.not_lt.mp
              intro q
              exact a3 n nj q tK_n
            have v3 := a1 (by omega)
            have ln1 : (R0 ++ R).length = R0.length + R.length := List.length_append
            have ln2 : (R0 ++ R ++ [(t, 0)]).length = R0.length + R.length + 1 := by rw [List.length_append, ln1]; rfl
            rcases rb_inl h2 with h3 | ⟨j3, R3, -, h4⟩
            · refine q_3 rfl ?_
              refine q_3 rfl ?_
              refine q_geN (by omega) (by omega) (fun hh => absurd hh (by omega)) (fun hh => ?_)
              refine q_5 rfl ?_
              refine q_3 rfl ?_
              refine q_47 (mj_ev_mono _) [_] rfl rfl rfl (by decide) rfl rfl rfl ?_
              refine c_51 g6 kl l4 ?_
              rw [jI_some hj]
              refine q_1 ?_
              refine q_eqI (fun z => absurd z (kd_ne t tj.2)) (fun _ => ?_)
              refine q_5 rfl ?_
              refine q_3 rfl ?_
              refine q_47 (mj_ev_mono _) [_] rfl rfl rfl (by decide) rfl rfl rfl ?_
              refine c_51 g6 kl l4 ?_
              rw [jI_some hj]
              refine q_6 rfl rfl rfl ?_
              refine q_5 rfl ?_
              refine q_47 (mj_ev_mono _) [] rfl rfl rfl (by decide) rfl rfl rfl ?_
              refine c_39 (j := j + 1) hP hB g1 g2.1 (fun I2 e2 hT => ?_)
              have E2 := uta Eqf.rf e2
              refine q_5 rfl ?_
              refine q_3 rfl ?_
              refine q_0 ?_
              first | refine q_add ?_ | refine q_11 rfl ?_
              refine q_3 rfl ?_
              refine q_47 (mj_ev_mono _) [_, _] rfl rfl rfl (by decide) rfl rfl rfl ?_
              refine (ihL (l + 1) (by omega) wi hwi (j + 1) R0 I2 _ (D' + 11) (by omega) nj (by omega) (hB.fa E2) ((E2 29 10 rfl).trans h10) ⟨(e2 29 9 rfl).trans g1, hT⟩ (hz.g (e2.to rfl rfl))).2 j2 R h1 (fun I3 e3 q1 q2 => ?_)
              refine q_5 rfl ?_
              refine q_33 rfl (by decide) (hP _ _ _ rfl) ?_
              refine q_33 rfl (by decide) (hP _ _ _ rfl) ?_
              refine q_3 rfl ?_
              refine q_0 ?_
              refine q_47 (mj_ev_mono _) [_, _] rfl rfl rfl (by decide) rfl rfl rfl ?_
              refine j61a tj.1 tj.2 (by omega) hP q2 (fun I4 e4 q4 => ?_)
              have E4 := usa (E2.tr e3) e4
              first | refine q_inc rfl rfl rfl ?_ | refine q_9 rfl rfl rfl ?_
              refine q_23 ?_
              exact (ihT l hl wi hwi j2 (R0 ++ R ++ [(t, 0)]) I4 Q (D' + 11) (turn + 1) _ (by omega) v1 (by omega) (by omega) (hB.fa E4) ((E4 29 10 rfl).trans h10) (q1.sa e4) q4).1 c jf h3 hc (fun I5 s e5 q5 q6 q7 => kk I5 s (E4.tr e5) q5 q6 q7)
            · cases h4
        · obtain ⟨j3, R3, h1, h2⟩ := rb_inr h
          obtain ⟨j4, R4, h3, h4⟩ := rb_inr h2
          cases h4
          obtain ⟨a1, a2, a3⟩ := px_adv f (l + 1) wi (j + 1) j3 R3 (Or.inl (by omega)) h1
          have v1 : j3 ≤ n := by
            apply Nat.not_lt.mp
            intro q
            exact a3 n nj q tK_n
          have v3 := a1 (by omega)
          have ln1 : (R0 ++ R3).length = R0.length + R3.length := List.length_append
          have ln2 : (R0 ++ R3 ++ [(t, 0)]).length = R0.length + R3.length + 1 := by rw [List.length_append, ln1]; rfl
          refine q_3 rfl ?_
          refine q_3 rfl ?_
          refine q_geN (by omega) (by omega) (fun hh => absurd hh (by omega)) (fun hh => ?_)
          refine q_5 rfl ?_
          refine q_3 rfl ?_
          refine q_47 (mj_ev_mono _) [_] rfl rfl rfl (by decide) rfl rfl rfl ?_
          refine c_51 g6 kl l4 ?_
          rw [jI_some hj]
          refine q_1 ?_
          refine q_eqI (fun z => absurd z (kd_ne t tj.2)) (fun _ => ?_)
          refine q_5 rfl ?_
          refine q_3 rfl ?_
          refine q_47 (mj_ev_mono _) [_] rfl rfl rfl (by decide) rfl rfl rfl ?_
          refine c_51 g6 kl l4 ?_
          rw [jI_some hj]
          refine q_6 rfl rfl rfl ?_
          refine q_5 rfl ?_
          refine q_47 (mj_ev_mono _) [] rfl rfl rfl (by decide) rfl rfl rfl ?_
          refine c_39 (j := j + 1) hP hB g1 g2.1 (fun I2 e2 hT => ?_)
          have E2 := uta Eqf.rf e2
          refine q_5 rfl ?_
          refine q_3 rfl ?_
          refine q_0 ?_
          first | refine q_add ?_ | refine q_11 rfl ?_
          refine q_3 rfl ?_
          refine q_47 (mj_ev_mono _) [_, _] rfl rfl rfl (by decide) rfl rfl rfl ?_
          refine (ihL (l + 1) (by omega) wi hwi (j + 1) R0 I2 _ (D' + 11) (by omega) nj (by omega) (hB.fa E2) ((E2 29 10 rfl).trans h10) ⟨(e2 29 9 rfl).trans g1, hT⟩ (hz.g (e2.to rfl rfl))).2 j3 R3 h1 (fun I3 e3 q1 q2 => ?_)
          refine q_5 rfl ?_
          refine q_33 rfl (by decide) (hP _ _ _ rfl) ?_
          refine q_33 rfl (by decide) (hP _ _ _ rfl) ?_
          refine q_3 rfl ?_
          refine q_0 ?_
          refine q_47 (mj_ev_mono _) [_, _] rfl rfl rfl (by decide) rfl rfl rfl ?_
          refine j61a tj.1 tj.2 (by omega) hP q2 (fun I4 e4 q4 => ?_)
          have E4 := usa (E2.tr e3) e4
          first | refine q_inc rfl rfl rfl ?_ | refine q_9 rfl rfl rfl ?_
          refine q_23 ?_
          exact (ihT l hl wi hwi j3 (R0 ++ R3 ++ [(t, 0)]) I4 Q (D' + 11) (turn + 1) _ (by omega) v1 (by omega) (by omega) (hB.fa E4) ((E4 29 10 rfl).trans h10) (q1.sa e4) q4).2 j2 R4 h3 (fun I5 e5 q5 q6 => kk I5 (E4.tr e5) q5 (by simp only [List.append_assoc, List.cons_append, List.nil_append] at q6 ⊢; exact q6))
end C
