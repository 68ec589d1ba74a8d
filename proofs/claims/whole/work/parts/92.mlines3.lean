/-! the model reads a line -/
theorem tkp_m1 {b : Nat → Nat} {n j : Nat} : tkp b n j ≤ tkp b n (j + 1) := by
  have h1 := tB_le (tkp_le (b := b) (n := n) j)
  have h2 := nx1_le (b := b) h1.2
  rw [tkp_s]
  omega
theorem tkp_mono {b : Nat → Nat} {n j : Nat} : ∀ {i : Nat}, j ≤ i → tkp b n j ≤ tkp b n i
  | 0, h => by rw [show j = 0 by omega]; exact Nat.le_refl _
  | i + 1, h => by
    by_cases e : j = i + 1
    · rw [e]; exact Nat.le_refl _
    · exact Nat.le_trans (tkp_mono (i := i) (by omega)) tkp_m1
theorem mk_oth {k : Nat} (h : 7 ≤ k) : mk k = none ∨ ∃ v, mk k = some v ∧ v < 19 ∧ v ≠ 5 ∧ v ≠ 7 ∧ ¬ (11 ≤ v ∧ v ≤ 15) := by
  by_cases h2 : k < 19
  · right
    have : ∀ k, k < 19 → 7 ≤ k → mw k < 19 ∧ mw k ≠ 5 ∧ mw k ≠ 7 ∧ ¬ (11 ≤ mw k ∧ mw k ≤ 15) := by decide
    refine ⟨mw k, if_pos h2, this k h2 h⟩
  · left
    exact if_neg h2
section M
variable {I : mj_I} {L : mj_L} {P : mj_P} {Q : mj_Q} {d n r t j : Nat} {b : Nat → Nat} {O : List Nat} {lo hi : Nat} {st : ST} {W : NR}
theorem s_193x {x : Int32} (hx : x = nI (tK b n j)) (hP : PS t P) (hB : MB b n I) (hS : SM b n (.inr j) I L) (hM : MR W O I) (hW : W.ok) (k : ∀ I' L' st', Eqf (frm RdC RdF) I I' → EqL (frm [] [(73, 21)]) L L' → st' = (if W.n = 10 then .inl (2, j) else skS b n j) → SM b n st' I' L' → (∀ j', st' = .inr j' → MR (skW b n j W) O I') → Q (.inl none) (107, I', L', P)) : mj_ev (d + 4) 193 [.ref 73, .int x] (107, I, L, P) Q := by
  rw [hx]
  exact s_193 hP hB hS hM hW k
theorem lnS_3 (h : tK b n j ≤ 3) : lnS b n W j = if W.n = 10 then (.inl (2, j), W) else (ndS b n (skS b n j), skW b n j W) := if_pos h
theorem lnS_4 (h : tK b n j = 4) : lnS b n W j = (ndS b n (bdS b n j W), bdW b n j W) := (if_neg (by omega)).trans (if_pos h)
theorem lnS_5t (h : tK b n j = 5) (ha : W.1.al ≠ none) : lnS b n W j = (.inl (5, j), W) := (if_neg (by omega)).trans ((if_neg (by omega)).trans ((if_pos h).trans (if_pos ha)))
theorem lnS_5 (h : tK b n j = 5) (ha : W.1.al = none) : lnS b n W j = (match EX b n 0 6 (j + 1) with
    | .inl e => (.inl e, W)
    | .inr q => (ndS b n (.inr q.1), W.sal q.2)) := (if_neg (by omega)).trans ((if_neg (by omega)).trans ((if_pos h).trans (if_neg (fun z => z ha))))
theorem lnS_6t (h : tK b n j = 6) (ha : W.1.li ≠ none) : lnS b n W j = (.inl (5, j), W) := (if_neg (by omega)).trans ((if_neg (by omega)).trans ((if_neg (by omega)).trans ((if_pos h).trans (if_pos ha))))
theorem lnS_6 (h : tK b n j = 6) (ha : W.1.li = none) : lnS b n W j = (match EX b n 6 10 (j + 1) with
    | .inl e => (.inl e, W)
    | .inr q => (ndS b n (.inr q.1), W.sli q.2)) := (if_neg (by omega)).trans ((if_neg (by omega)).trans ((if_neg (by omega)).trans ((if_pos h).trans (if_neg (fun z => z ha)))))
theorem lnS_o (h : 7 ≤ tK b n j) : lnS b n W j = (.inl (1, j), W) := (if_neg (by omega)).trans ((if_neg (by omega)).trans ((if_neg (by omega)).trans (if_neg (by omega))))
set_option maxHeartbeats 1000000 in
theorem s_194 (hP : PS t P) (hB : MB b n I) (hS : SM b n (.inr j) I L) (hM : MR W O I) (hW : W.ok) (hjn : j ≤ n) (hk : tK b n j ≠ 21) (hO : O.length ≤ 2 * tkp b n j) (k : ∀ I' L', Eqf (frm RdC RdF) I I' → EqL (frm [] [(73, 21)]) L L' → SM b n (lnS b n W j).1 I' L' → (∀ j', (lnS b n W j).1 = .inr j' → ∃ O', MR (lnS b n W j).2 O' I' ∧ O'.length ≤ 2 * tkp b n j') → Q (.inl none) (107, I', L', P)) : mj_ev (d + 7) 194 [.ref 73] (107, I, L, P) Q := by
  refine ⟨rfl, ?_⟩
  show mj_run (mj_ev (d + 6)) k194 Q (k194 0) [some (.ref 73), none, none, none] [] (107, I, L, P) 0 0
  have hS' := hS
  obtain ⟨g11, gT⟩ := hS
  have hM' := hM
  obtain ⟨m1, m2, m3, m4, m5, m6, m7⟩ := hM
  have hn10 : W.n ≤ 10 := hW.1.1
  have hn7 : n ≤ 700 := hB.2.1
  have ta := t_adv hk
  -- the sign at its end
  have fin : ∀ (st : ST) (W' : NR) I1 L1 x1 x2 x3, Eqf (frm RdC RdF) I I1 → EqL (frm [] [(73, 21)]) L L1 → SM b n st I1 L1 → lnS b n W j = (ndS b n st, W') → (∀ j', ndS b n st = .inr j' → ∃ O', MR W' O' I1 ∧ O'.length ≤ 2 * tkp b n j') → mj_run (mj_ev (d + 6)) k194 Q (k194 207) [some (.ref 73), x1, x2, x3] [] (107, I1, L1, P) 0 0 := by
    intro st W' I1 L1 x1 x2 x3 E EL hS1 hl hR
    have hB1 := hB.fm E
    have go : ∀ I' L', Eqf (frm [] tkG) I1 I' → EqL (frm [] [(73, 21)]) L1 L' → SM b n (ndS b n st) I' L' → Q (.inl none) (107, I', L', P) := fun I' L' e eL h => k I' L' (E.tr (e.to rfl rfl)) (EL.tr eL) (by rw [hl]; exact h) (fun j' hj => by
      rw [hl] at hj ⊢
      obtain ⟨O', o1, o2⟩ := hR j' hj
      exact ⟨O', o1.fr e, o2⟩)
    cases st with
    | inl e =>
      refine q_5 rfl ?_
      refine q_5 rfl ?_
      refine q_0 ?_
      refine q_47 (mj_ev_mono _) [_] rfl rfl rfl (by decide) rfl rfl rfl ?_
      refine s_178g (fun z => ?_)
      refine q_47 (mj_ev_mono _) [_] rfl rfl rfl (by decide) rfl rfl rfl ?_
      refine s_179 hP hB1 hS1 (fun j e => by cases e) (fun I' L' e eL h => ?_)
      refine q_25 ?_
      exact go I' L' e eL h
    | inr j2 =>
      refine q_5 rfl ?_
      refine q_5 rfl ?_
      refine q_0 ?_
      refine q_47 (mj_ev_mono _) [_] rfl rfl rfl (by decide) rfl rfl rfl ?_
      refine s_178 hS1.2 (by omega) (by omega) (fun i hi => (hB1.1 i hi).2) ?_
      refine q_47 (mj_ev_mono _) [_] rfl rfl rfl (by decide) rfl rfl rfl ?_
      refine s_179 (st := .inr j2) hP hB1 hS1 (fun j e => by cases e; rfl) (fun I' L' e eL h => ?_)
      refine q_25 ?_
      exact go I' L' e eL h
  have sock : ∀ I' L' st', Eqf (frm RdC RdF) I I' → EqL (frm [] [(73, 21)]) L L' → tK b n j ≤ 3 → st' = (if W.n = 10 then .inl (2, j) else skS b n j) → SM b n st' I' L' → (∀ j', st' = .inr j' → MR (skW b n j W) O I') → ∀ x1 x2 x3, mj_run (mj_ev (d + 6)) k194 Q (k194 207) [some (.ref 73), x1, x2, x3] [] (107, I', L', P) 0 0 := by
    intro I' L' st' E EL k3 hst h1 h2 x1 x2 x3
    by_cases c : W.n = 10
    · rw [if_pos c] at hst
      subst hst
      exact fin _ W I' L' _ _ _ E EL h1 ((lnS_3 k3).trans (if_pos c)) (fun j' e => by cases e)
    · rw [if_neg c] at hst
      subst hst
      refine fin _ _ I' L' _ _ _ E EL h1 ((lnS_3 k3).trans (if_neg c)) (fun j' e => ?_)
      obtain ⟨j6, q1, rfl, q3⟩ := ndS_inr e
      refine ⟨O, h2 j6 q1, Nat.le_trans hO (Nat.mul_le_mul_left 2 (tkp_mono ?_))⟩
      obtain ⟨rfl, -⟩ := skS_inr q1
      omega
  by_cases k0 : tK b n j = 0
  · refine q_5 rfl ?_
    refine q_47 (mj_ev_mono _) [] rfl rfl rfl (by decide) rfl rfl rfl ?_
    refine s_175 hP gT hn7 ?_
    rw [k0, show mI (mk 0) = nI 5 from rfl]
    refine q_6 rfl rfl rfl ?_
    refine q_3 rfl ?_
    refine q_0 ?_
    refine q_eqN (by omega) (by omega) (fun hh => ?_) (fun hh => absurd hh (by omega))
    refine q_5 rfl ?_
    refine q_3 rfl ?_
    refine q_0 ?_
    refine q_neN (by omega) (by omega) (fun hh => absurd hh (by omega)) (fun hh => ?_)
    refine q_0 ?_
    refine q_23 ?_
    refine q_47 (mj_ev_mono _) [_] rfl rfl rfl (by decide) rfl rfl rfl ?_
    refine s_193x (by rw [k0]) hP hB hS' hM' hW (fun I' L' st' E EL q1 q2 q3 => ?_)
    refine q_23 ?_
    exact sock I' L' st' E EL (by omega) q1 q2 q3 _ _ _
  by_cases k1 : tK b n j = 1
  · refine q_5 rfl ?_
    refine q_47 (mj_ev_mono _) [] rfl rfl rfl (by decide) rfl rfl rfl ?_
    refine s_175 hP gT hn7 ?_
    rw [k1, show mI (mk 1) = nI 11 from rfl]
    refine q_6 rfl rfl rfl ?_
    refine q_3 rfl ?_
    refine q_0 ?_
    refine q_eqN (by omega) (by omega) (fun hh => absurd hh (by omega)) (fun hh => ?_)
    refine q_3 rfl ?_
    refine q_0 ?_
    refine q_ltN (by omega) (by omega) (fun hh => absurd hh (by omega)) (fun hh => ?_)
    refine q_3 rfl ?_
    refine q_0 ?_
    refine q_gtN (by omega) (by omega) (fun hh => absurd hh (by omega)) (fun hh => ?_)
    refine q_5 rfl ?_
    refine q_3 rfl ?_
    refine q_0 ?_
    refine q_neN (by omega) (by omega) (fun hh => ?_) (fun hh => absurd hh (by omega))
    refine q_3 rfl ?_
    refine q_0 ?_
    first | refine q_sub (by omega) ?_ | refine q_11 rfl ?_
    refine q_0 ?_
    first | refine q_add ?_ | refine q_11 rfl ?_
    refine q_47 (mj_ev_mono _) [_] rfl rfl rfl (by decide) rfl rfl rfl ?_
    refine s_193x (by rw [k1]) hP hB hS' hM' hW (fun I' L' st' E EL q1 q2 q3 => ?_)
    refine q_23 ?_
    exact sock I' L' st' E EL (by omega) q1 q2 q3 _ _ _
  by_cases k2 : tK b n j = 2
  · refine q_5 rfl ?_
    refine q_47 (mj_ev_mono _) [] rfl rfl rfl (by decide) rfl rfl rfl ?_
    refine s_175 hP gT hn7 ?_
    rw [k2, show mI (mk 2) = nI 12 from rfl]
    refine q_6 rfl rfl rfl ?_
    refine q_3 rfl ?_
    refine q_0 ?_
    refine q_eqN (by omega) (by omega) (fun hh => absurd hh (by omega)) (fun hh => ?_)
    refine q_3 rfl ?_
    refine q_0 ?_
    refine q_ltN (by omega) (by omega) (fun hh => absurd hh (by omega)) (fun hh => ?_)
    refine q_3 rfl ?_
    refine q_0 ?_
    refine q_gtN (by omega) (by omega) (fun hh => absurd hh (by omega)) (fun hh => ?_)
    refine q_5 rfl ?_
    refine q_3 rfl ?_
    refine q_0 ?_
    refine q_neN (by omega) (by omega) (fun hh => ?_) (fun hh => absurd hh (by omega))
    refine q_3 rfl ?_
    refine q_0 ?_
    first | refine q_sub (by omega) ?_ | refine q_11 rfl ?_
    refine q_0 ?_
    first | refine q_add ?_ | refine q_11 rfl ?_
    refine q_47 (mj_ev_mono _) [_] rfl rfl rfl (by decide) rfl rfl rfl ?_
    refine s_193x (by rw [k2]) hP hB hS' hM' hW (fun I' L' st' E EL q1 q2 q3 => ?_)
    refine q_23 ?_
    exact sock I' L' st' E EL (by omega) q1 q2 q3 _ _ _
  by_cases k3 : tK b n j = 3
  · refine q_5 rfl ?_
    refine q_47 (mj_ev_mono _) [] rfl rfl rfl (by decide) rfl rfl rfl ?_
    refine s_175 hP gT hn7 ?_
    rw [k3, show mI (mk 3) = nI 13 from rfl]
    refine q_6 rfl rfl rfl ?_
    refine q_3 rfl ?_
    refine q_0 ?_
    refine q_eqN (by omega) (by omega) (fun hh => absurd hh (by omega)) (fun hh => ?_)
    refine q_3 rfl ?_
    refine q_0 ?_
    refine q_ltN (by omega) (by omega) (fun hh => absurd hh (by omega)) (fun hh => ?_)
    refine q_3 rfl ?_
    refine q_0 ?_
    refine q_gtN (by omega) (by omega) (fun hh => absurd hh (by omega)) (fun hh => ?_)
    refine q_5 rfl ?_
    refine q_3 rfl ?_
    refine q_0 ?_
    refine q_neN (by omega) (by omega) (fun hh => ?_) (fun hh => absurd hh (by omega))
    refine q_3 rfl ?_
    refine q_0 ?_
    first | refine q_sub (by omega) ?_ | refine q_11 rfl ?_
    refine q_0 ?_
    first | refine q_add ?_ | refine q_11 rfl ?_
    refine q_47 (mj_ev_mono _) [_] rfl rfl rfl (by decide) rfl rfl rfl ?_
    refine s_193x (by rw [k3]) hP hB hS' hM' hW (fun I' L' st' E EL q1 q2 q3 => ?_)
    refine q_23 ?_
    exact sock I' L' st' E EL (by omega) q1 q2 q3 _ _ _
  by_cases k4 : tK b n j = 4
  · have hl := lnS_4 (W := W) k4
    have hu : ∀ q, some (tV b n (j + 1)) = some q → tK b n (j + 1) = 20 → q < 10000 := fun q e h => by cases e; exact (t_num h).2
    cases hq : bdS b n j W with
    | inl e =>
      have u9 : ∀ q, (if tK b n (j + 1) = 20 then some (tV b n (j + 1)) else none) = some q → q < 10000 := fun q e => by
        by_cases h : tK b n (j + 1) = 20
        · rw [if_pos h] at e
          exact hu q e h
        · rw [if_neg h] at e
          cases e
      have ea : ∀ st, ubS b n W.n W.m (if tK b n (j + 1) = 20 then some (tV b n (j + 1)) else none) st = ubS b n W.n W.m (some (tV b n (j + 1))) st ∨ tK b n (j + 1) ≠ 20 := fun st => by
        by_cases h : tK b n (j + 1) = 20
        · rw [if_pos h]
          exact Or.inl rfl
        · exact Or.inr h
      have eq2 : ubS b n W.n W.m (if tK b n (j + 1) = 20 then some (tV b n (j + 1)) else none) (ubS b n W.n W.m none (.inr (j + 1))) = .inl e := by
        rcases ea (ubS b n W.n W.m none (.inr (j + 1))) with h | h
        · rw [h]; exact hq
        · have h1 : ubS b n W.n W.m none (.inr (j + 1)) = .inl (1, j + 1) := if_pos h
          have h2 : bdS b n j W = .inl (1, j + 1) := by
            unfold bdS
            rw [h1]
            rfl
          rw [h1]
          rw [h2] at hq
          exact hq
      refine q_5 rfl ?_
      refine q_47 (mj_ev_mono _) [] rfl rfl rfl (by decide) rfl rfl rfl ?_
      refine s_175 hP gT hn7 ?_
      rw [k4, show mI (mk 4) = nI 14 from rfl]
      refine q_6 rfl rfl rfl ?_
      refine q_3 rfl ?_
      refine q_0 ?_
      refine q_eqN (by omega) (by omega) (fun hh => absurd hh (by omega)) (fun hh => ?_)
      refine q_3 rfl ?_
      refine q_0 ?_
      refine q_ltN (by omega) (by omega) (fun hh => absurd hh (by omega)) (fun hh => ?_)
      refine q_3 rfl ?_
      refine q_0 ?_
      refine q_gtN (by omega) (by omega) (fun hh => ?_) (fun hh => absurd hh (by omega))
      refine q_3 rfl ?_
      refine q_0 ?_
      refine q_neN (by omega) (by omega) (fun hh => absurd hh (by omega)) (fun hh => ?_)
      refine q_5 rfl ?_
      refine q_47 (mj_ev_mono _) [] rfl rfl rfl (by decide) rfl rfl rfl ?_
      refine s_172 (j := j + 1) hP hB gT.1 (fun I1 L1 e1 eL1 hT1 => ?_)
      have hS1 : SM b n (.inr (j + 1)) I1 L1 := ⟨g11.tk e1, hT1⟩
      refine q_5 rfl ?_
      refine q_1 ?_
      refine q_47 (mj_ev_mono _) [_] rfl rfl rfl (by decide) rfl rfl rfl ?_
      refine s_181 (a := none) (st := .inr (j + 1)) hP (hB.fm (e1.to rfl rfl)) hS1 (hM'.fr (e1.to rfl rfl)) hW (fun q e => by cases e) (fun _ _ => rfl) (fun v1 I2 L2 e2 eL2 hS2 hv2 => ?_)
      refine q_6 rfl rfl rfl ?_
      refine q_5 rfl ?_
      refine q_3 rfl ?_
      refine q_47 (mj_ev_mono _) [_] rfl rfl rfl (by decide) rfl rfl rfl ?_
      refine s_181 (a := if tK b n (j + 1) = 20 then some (tV b n (j + 1)) else none) (W := W) (O := O) hP ((hB.fm (e1.to rfl rfl)).fm (e2.to rfl rfl)) hS2 ((hM'.fr (e1.to rfl rfl)).fr e2) hW u9 (fun j0 hj => by rw [if_pos (ubS_inr hj).2.1]; exact hv2 _ _ rfl hj) (fun v2 I3 L3 e3 eL3 hS3 hv3 => ?_)
      rw [eq2] at hS3
      refine q_6 rfl rfl rfl ?_
      refine q_5 rfl ?_
      refine q_47 (mj_ev_mono _) [] rfl rfl rfl (by decide) rfl rfl rfl ?_
      refine s_177B (f := e.1) hS3.2.2.1 hS3.1 hS3.2.1 ?_
      first | refine q_eqN0 (by omega) (fun hh => ?_) (fun hh => absurd hh (by omega)) | refine q_eqI0 (fun hh => ?_) (fun hh => absurd (by omega) hh)
      refine q_5 rfl ?_
      refine q_47 (mj_ev_mono _) [] rfl rfl rfl (by decide) rfl rfl rfl ?_
      refine s_177B (f := e.1) hS3.2.2.1 hS3.1 hS3.2.1 ?_
      first | refine q_eqN0 (by omega) (fun hh => ?_) (fun hh => absurd hh (by omega)) | refine q_eqI0 (fun hh => ?_) (fun hh => absurd (by omega) hh)
      refine q_23 ?_
      exact fin (.inl e) _ I3 L3 _ _ _ (((e1.to rfl rfl).tr (e2.to rfl rfl)).tr (e3.to rfl rfl)) ((eL1.tr eL2).tr eL3) hS3 (by rw [hl, hq]) (fun j' e => by cases e)
    | inr j' =>
      obtain ⟨ej, q1, q2, q3, q4, q5, q6⟩ := bdS_inr hq
      have h20 := q1 1 (by omega) (by omega)
      have u1 := t_num h20
      obtain ⟨j2, y1, y2⟩ := ubS_st hq
      refine q_5 rfl ?_
      refine q_47 (mj_ev_mono _) [] rfl rfl rfl (by decide) rfl rfl rfl ?_
      refine s_175 hP gT hn7 ?_
      rw [k4, show mI (mk 4) = nI 14 from rfl]
      refine q_6 rfl rfl rfl ?_
      refine q_3 rfl ?_
      refine q_0 ?_
      refine q_eqN (by omega) (by omega) (fun hh => absurd hh (by omega)) (fun hh => ?_)
      refine q_3 rfl ?_
      refine q_0 ?_
      refine q_ltN (by omega) (by omega) (fun hh => absurd hh (by omega)) (fun hh => ?_)
      refine q_3 rfl ?_
      refine q_0 ?_
      refine q_gtN (by omega) (by omega) (fun hh => ?_) (fun hh => absurd hh (by omega))
      refine q_3 rfl ?_
      refine q_0 ?_
      refine q_neN (by omega) (by omega) (fun hh => absurd hh (by omega)) (fun hh => ?_)
      refine q_5 rfl ?_
      refine q_47 (mj_ev_mono _) [] rfl rfl rfl (by decide) rfl rfl rfl ?_
      refine s_172 (j := j + 1) hP hB gT.1 (fun I1 L1 e1 eL1 hT1 => ?_)
      have hS1 : SM b n (.inr (j + 1)) I1 L1 := ⟨g11.tk e1, hT1⟩
      refine q_5 rfl ?_
      refine q_1 ?_
      refine q_47 (mj_ev_mono _) [_] rfl rfl rfl (by decide) rfl rfl rfl ?_
      refine s_181 (a := none) (st := .inr (j + 1)) hP (hB.fm (e1.to rfl rfl)) hS1 (hM'.fr (e1.to rfl rfl)) hW (fun q e => by cases e) (fun _ _ => rfl) (fun v1 I2 L2 e2 eL2 hS2 hv2 => ?_)
      have w1 := hv2 _ _ rfl y1
      subst w1
      refine q_6 rfl rfl rfl ?_
      refine q_5 rfl ?_
      refine q_3 rfl ?_
      refine q_47 (mj_ev_mono _) [_] rfl rfl rfl (by decide) rfl rfl rfl ?_
      refine s_181 (a := some (tV b n (j + 1))) (W := W) (O := O) hP ((hB.fm (e1.to rfl rfl)).fm (e2.to rfl rfl)) hS2 ((hM'.fr (e1.to rfl rfl)).fr e2) hW (fun q e => by cases e; exact u1.2) (fun j0 hj => rfl) (fun v2 I3 L3 e3 eL3 hS3 hv3 => ?_)
      have w2 := hv3 _ _ y1 hq
      rw [show j2 = j + 2 by have := (ubS_inr y1).1; omega] at w2
      subst w2
      have hS3' : SM b n (bdS b n j W) I3 L3 := hS3
      rw [hq] at hS3'
      have hM3 := ((hM'.fr (e1.to rfl rfl)).fr e2).fr e3
      refine q_6 rfl rfl rfl ?_
      refine q_5 rfl ?_
      refine q_47 (mj_ev_mono _) [] rfl rfl rfl (by decide) rfl rfl rfl ?_
      refine s_177G hS3'.1.1 ?_
      first | refine q_eqN0 (by omega) (fun hh => absurd hh (by omega)) (fun hh => ?_) | refine q_eqI0 (fun hh => absurd hh (by omega)) (fun hh => ?_)
      refine q_5 rfl ?_
      refine q_33 rfl (by decide) (hP _ _ _ rfl) ?_
      refine q_0 ?_
      refine q_3 rfl ?_
      first | refine q_add ?_ | refine q_11 rfl ?_
      refine q_3 rfl ?_
      refine q_42 _ rfl (by decide) rfl (by show _ < 33; omega) (by decide) ?_
      refine q_5 rfl ?_
      refine q_47 (mj_ev_mono _) [] rfl rfl rfl (by decide) rfl rfl rfl ?_
      refine s_177G hS3'.1.1 ?_
      first | refine q_eqN0 (by omega) (fun hh => absurd hh (by omega)) (fun hh => ?_) | refine q_eqI0 (fun hh => absurd hh (by omega)) (fun hh => ?_)
      refine q_5 rfl ?_
      refine q_33 rfl (by decide) (hP _ _ _ rfl) ?_
      refine q_0 ?_
      refine q_3 rfl ?_
      first | refine q_add ?_ | refine q_11 rfl ?_
      refine q_3 rfl ?_
      refine q_42 _ rfl (by decide) rfl (by show _ < 33; omega) (by decide) ?_
      refine q_23 ?_
      refine fin (.inr j') (bdW b n j W) _ L3 _ _ _ (((((e1.to rfl rfl).tr (e2.to rfl rfl)).tr (e3.to rfl rfl)).up rfl).up rfl) ((eL1.tr eL2).tr eL3) (hS3'.fr (fun q hq => by rcases hq with rfl | rfl | rfl | rfl | rfl | rfl | rfl | rfl <;> rfl) rfl) (by rw [hl, hq]) (fun j6 e => ⟨O, ?_, Nat.le_trans hO (Nat.mul_le_mul_left 2 (tkp_mono (by obtain ⟨j7, z1, rfl, z3⟩ := ndS_inr e; cases z1; omega)))⟩)
      obtain ⟨a1, a2, a3, a4, a5, a6, a7⟩ := hM3
      have aa : ∀ q, mj_upI (mj_upI I3 85 (23 + tV b n (j + 1)) (nI (tV b n (j + 2)))) 85 (23 + tV b n (j + 2)) (nI (tV b n (j + 1))) 85 q = if q = 23 + tV b n (j + 2) then nI (tV b n (j + 1)) else if q = 23 + tV b n (j + 1) then nI (tV b n (j + 2)) else I3 85 q := fun q => upI_f.trans (by rw [upI_f])
      refine ⟨a1, fun p hp => ?_, (aa 0).trans (by rw [if_neg (by omega), if_neg (by omega)]; exact a3), a4, a5, a6, a7⟩
      have hp' : p < W.n := hp
      obtain ⟨b1, b2, b3, b4, b5, b6, b7⟩ := a2 p hp'
      refine ⟨b1, b2, b3, b4, (aa (1 + p)).trans (by rw [if_neg (by omega), if_neg (by omega)]; exact b5), (aa (12 + p)).trans (by rw [if_neg (by omega), if_neg (by omega)]; exact b6), (aa (23 + p)).trans ?_⟩
      show _ = mI (if p = tV b n (j + 2) then some (tV b n (j + 1)) else if p = tV b n (j + 1) then some (tV b n (j + 2)) else W.m p)
      by_cases c1 : p = tV b n (j + 2)
      · rw [if_pos c1, if_pos (by omega)]
        rfl
      · rw [if_neg c1, if_neg (by omega)]
        by_cases c2 : p = tV b n (j + 1)
        · rw [if_pos c2, if_pos (by omega)]
          rfl
        · rw [if_neg c2, if_neg (by omega)]
          exact b7
  by_cases k5 : tK b n j = 5
  · have jl : j + 1 ≤ n := by
      have : j ≠ n := fun z => hk (by rw [z]; exact tK_n)
      omega
    cases ha : W.1.al with
    | some R =>
      rw [ha] at m4
      obtain ⟨O1, r, eO, ev, ol, -⟩ := m4
      have z23 : ¬ I 73 23 = -(nI 1) := by
        rw [ev]
        exact mI_ne (by omega)
      have hl : lnS b n W j = (.inl (5, j), W) := lnS_5t k5 (by rw [ha]; exact fun z => by cases z)
      have z11 : mj_upI (mj_upI I 73 11 (nI 5)) 73 12 (nI (tB b n j)) 73 11 = nI 5 := rfl
      refine q_5 rfl ?_
      refine q_47 (mj_ev_mono _) [] rfl rfl rfl (by decide) rfl rfl rfl ?_
      refine s_175 hP gT hn7 ?_
      rw [k5, show mI (mk 5) = nI 7 from rfl]
      refine q_6 rfl rfl rfl ?_
      refine q_3 rfl ?_
      refine q_0 ?_
      refine q_eqN (by omega) (by omega) (fun hh => absurd hh (by omega)) (fun hh => ?_)
      refine q_3 rfl ?_
      refine q_0 ?_
      refine q_ltN (by omega) (by omega) (fun hh => ?_) (fun hh => absurd hh (by omega))
      refine q_3 rfl ?_
      refine q_0 ?_
      refine q_neN (by omega) (by omega) (fun hh => ?_) (fun hh => absurd hh (by omega))
      refine q_3 rfl ?_
      refine q_0 ?_
      refine q_neN (by omega) (by omega) (fun hh => absurd hh (by omega)) (fun hh => ?_)
      refine q_5 rfl ?_
      refine q_31 rfl (by decide) ?_
      refine q_1 ?_
      refine q_eqI (fun z => absurd z z23) (fun _ => ?_)
      refine q_5 rfl ?_
      refine q_0 ?_
      refine q_47 (mj_ev_mono _) [_] rfl rfl rfl (by decide) rfl rfl rfl ?_
      refine s_176G g11.1 gT.2.2.1 ?_
      refine q_5 rfl ?_
      refine q_47 (mj_ev_mono _) [] rfl rfl rfl (by decide) rfl rfl rfl ?_
      refine s_177B z11 (by omega) (by omega) ?_
      first | refine q_neN0 (by omega) (fun hh => absurd hh (by omega)) (fun hh => ?_) | refine q_neI0 (fun hh => absurd hh (by omega)) (fun hh => ?_)
      refine q_25 ?_
      exact k _ L ((Eqf.rf.up rfl).up rfl) (fun _ _ _ => rfl) (by rw [hl]; exact SM_flt (by omega) (by omega)) (fun j' e => by rw [hl] at e; cases e)
    | none =>
      rw [ha] at m4
      have z23 : I 73 23 = -(nI 1) := m4
      have hl := lnS_5 (W := W) k5 ha
      cases ex : EX b n 0 6 (j + 1) with
      | inl q =>
        rw [ex] at hl
        refine q_5 rfl ?_
        refine q_47 (mj_ev_mono _) [] rfl rfl rfl (by decide) rfl rfl rfl ?_
        refine s_175 hP gT hn7 ?_
        rw [k5, show mI (mk 5) = nI 7 from rfl]
        refine q_6 rfl rfl rfl ?_
        refine q_3 rfl ?_
        refine q_0 ?_
        refine q_eqN (by omega) (by omega) (fun hh => absurd hh (by omega)) (fun hh => ?_)
        refine q_3 rfl ?_
        refine q_0 ?_
        refine q_ltN (by omega) (by omega) (fun hh => ?_) (fun hh => absurd hh (by omega))
        refine q_3 rfl ?_
        refine q_0 ?_
        refine q_neN (by omega) (by omega) (fun hh => ?_) (fun hh => absurd hh (by omega))
        refine q_3 rfl ?_
        refine q_0 ?_
        refine q_neN (by omega) (by omega) (fun hh => absurd hh (by omega)) (fun hh => ?_)
        refine q_5 rfl ?_
        refine q_31 rfl (by decide) ?_
        refine q_1 ?_
        refine q_eqI (fun _ => ?_) (fun z => absurd z23 z)
        refine q_5 rfl ?_
        refine q_47 (mj_ev_mono _) [] rfl rfl rfl (by decide) rfl rfl rfl ?_
        refine s_177G g11.1 ?_
        first | refine q_neN0 (by omega) (fun hh => ?_) (fun hh => absurd hh (by omega)) | refine q_neI0 (fun hh => ?_) (fun hh => absurd (by omega) hh)
        refine q_5 rfl ?_
        refine q_47 (mj_ev_mono _) [] rfl rfl rfl (by decide) rfl rfl rfl ?_
        refine s_172 (j := j + 1) hP hB gT.1 (fun I1 L1 e1 eL1 hT1 => ?_)
        have m6b : I1 73 25 = nI O.length := (e1 73 25 rfl).trans m6
        have m7b : OUT O (I1 86) := by rw [show I1 86 = I 86 from funext (fun q => e1 86 q rfl)]; exact m7
        refine q_5 rfl ?_
        refine q_5 rfl ?_
        first | refine q_31E rfl (by decide) m6b ?_ | refine q_31 rfl (by decide) ?_
        refine q_34 rfl (by decide) ?_
        refine q_5 rfl ?_
        refine q_0 ?_
        refine q_0 ?_
        refine q_47 (mj_ev_mono _) [_, _] rfl rfl rfl (by decide) rfl rfl rfl ?_
        refine s_192 (lo := 0) (hi := 6) (O := O) (j := j + 1) hP (hB.fr (fun q => e1 79 q rfl) (e1 73 14 rfl)) (hT1.fr (fun q hq => by rcases hq with rfl | rfl | rfl | rfl | rfl | rfl <;> rfl) rfl) ⟨(e1 73 11 rfl).trans g11.1, (e1 73 12 rfl).trans g11.2⟩ m6b m7b (by omega) jl (by omega) (by omega) (fun c jf e c0 c9 I3 L3 E3 EL3 f1 f2 => ?_) (fun j2 R e => by rw [ex] at e; cases e)
        rw [ex] at e
        cases e
        refine q_23 ?_
        exact fin (.inl (c, jf)) W I3 L3 _ _ _ (((e1.to rfl rfl).up rfl).tr (E3.to rfl rfl)) (eL1.tr EL3) ⟨c0, c9, f1, f2⟩ hl (fun j' e => by cases e)
      | inr q =>
        obtain ⟨j2, R⟩ := q
        rw [ex] at hl
        obtain ⟨y1, y2, y3, y4⟩ := EX_ok ex
        have y5 := tkp_add (b := b) (n := n) (j := j + 1) (j2 - (j + 1)) (fun i h1 h2 => y3 i h1 (by omega))
        rw [show j + 1 + (j2 - (j + 1)) = j2 by omega] at y5
        have y6 := tkp_le (b := b) (n := n) j2
        have y7 := enc_len R
        refine q_5 rfl ?_
        refine q_47 (mj_ev_mono _) [] rfl rfl rfl (by decide) rfl rfl rfl ?_
        refine s_175 hP gT hn7 ?_
        rw [k5, show mI (mk 5) = nI 7 from rfl]
        refine q_6 rfl rfl rfl ?_
        refine q_3 rfl ?_
        refine q_0 ?_
        refine q_eqN (by omega) (by omega) (fun hh => absurd hh (by omega)) (fun hh => ?_)
        refine q_3 rfl ?_
        refine q_0 ?_
        refine q_ltN (by omega) (by omega) (fun hh => ?_) (fun hh => absurd hh (by omega))
        refine q_3 rfl ?_
        refine q_0 ?_
        refine q_neN (by omega) (by omega) (fun hh => ?_) (fun hh => absurd hh (by omega))
        refine q_3 rfl ?_
        refine q_0 ?_
        refine q_neN (by omega) (by omega) (fun hh => absurd hh (by omega)) (fun hh => ?_)
        refine q_5 rfl ?_
        refine q_31 rfl (by decide) ?_
        refine q_1 ?_
        refine q_eqI (fun _ => ?_) (fun z => absurd z23 z)
        refine q_5 rfl ?_
        refine q_47 (mj_ev_mono _) [] rfl rfl rfl (by decide) rfl rfl rfl ?_
        refine s_177G g11.1 ?_
        first | refine q_neN0 (by omega) (fun hh => ?_) (fun hh => absurd hh (by omega)) | refine q_neI0 (fun hh => ?_) (fun hh => absurd (by omega) hh)
        refine q_5 rfl ?_
        refine q_47 (mj_ev_mono _) [] rfl rfl rfl (by decide) rfl rfl rfl ?_
        refine s_172 (j := j + 1) hP hB gT.1 (fun I1 L1 e1 eL1 hT1 => ?_)
        have m6b : I1 73 25 = nI O.length := (e1 73 25 rfl).trans m6
        have m7b : OUT O (I1 86) := by rw [show I1 86 = I 86 from funext (fun q => e1 86 q rfl)]; exact m7
        refine q_5 rfl ?_
        refine q_5 rfl ?_
        first | refine q_31E rfl (by decide) m6b ?_ | refine q_31 rfl (by decide) ?_
        refine q_34 rfl (by decide) ?_
        refine q_5 rfl ?_
        refine q_0 ?_
        refine q_0 ?_
        refine q_47 (mj_ev_mono _) [_, _] rfl rfl rfl (by decide) rfl rfl rfl ?_
        refine s_192 (lo := 0) (hi := 6) (O := O) (j := j + 1) hP (hB.fr (fun q => e1 79 q rfl) (e1 73 14 rfl)) (hT1.fr (fun q hq => by rcases hq with rfl | rfl | rfl | rfl | rfl | rfl <;> rfl) rfl) ⟨(e1 73 11 rfl).trans g11.1, (e1 73 12 rfl).trans g11.2⟩ m6b m7b (by omega) jl (by omega) (by omega) (fun c jf e => by rw [ex] at e; cases e) (fun j3 R3 e I3 L3 E3 EL3 f1 f2 f3 f4 => ?_)
        rw [ex] at e
        cases e
        refine q_23 ?_
        refine fin (.inr j2) (W.sal R) I3 L3 _ _ _ (((e1.to rfl rfl).up rfl).tr (E3.to rfl rfl)) (eL1.tr EL3) ⟨f2, f1⟩ hl (fun j' e => ⟨O ++ enc R ++ [0], ?_, ?_⟩)
        · refine ⟨((E3 73 22 rfl).trans (e1 73 22 rfl)).trans m1, fun p hp => ?_, ((E3 85 0 rfl).trans (e1 85 0 rfl)).trans m3, ⟨O, [], by rw [List.append_nil], E3 73 23 rfl, by omega, y4⟩, (by show ruleO _ (I3 73 24) _ _ _; rw [E3 73 24 rfl, show mj_upI I1 73 23 (nI O.length) 73 24 = I1 73 24 from rfl, e1 73 24 rfl]; exact (ruleO.ap m5 (enc R)).ap [0]), f3, f4⟩
          obtain ⟨b1, b2, b3, b4, b5, b6, b7⟩ := m2 p hp
          exact ⟨((E3 81 p rfl).trans (e1 81 p rfl)).trans b1, ((E3 82 p rfl).trans (e1 82 p rfl)).trans b2, ((E3 83 p rfl).trans (e1 83 p rfl)).trans b3, ((E3 84 p rfl).trans (e1 84 p rfl)).trans b4, ((E3 85 _ rfl).trans (e1 85 _ rfl)).trans b5, ((E3 85 _ rfl).trans (e1 85 _ rfl)).trans b6, ((E3 85 _ rfl).trans (e1 85 _ rfl)).trans b7⟩
        · obtain ⟨j7, z1, rfl, z3⟩ := ndS_inr e
          cases z1
          have := tkp_m1 (b := b) (n := n) (j := j2)
          rw [List.length_append, List.length_append]
          show O.length + (enc R).length + 1 ≤ _
          omega
  by_cases k6 : tK b n j = 6
  · have jl : j + 1 ≤ n := by
      have : j ≠ n := fun z => hk (by rw [z]; exact tK_n)
      omega
    cases ha : W.1.li with
    | some R =>
      rw [ha] at m5
      obtain ⟨O1, r, eO, ev, ol, -⟩ := m5
      have z23 : ¬ I 73 24 = -(nI 1) := by
        rw [ev]
        exact mI_ne (by omega)
      have hl : lnS b n W j = (.inl (5, j), W) := lnS_6t k6 (by rw [ha]; exact fun z => by cases z)
      have z11 : mj_upI (mj_upI I 73 11 (nI 5)) 73 12 (nI (tB b n j)) 73 11 = nI 5 := rfl
      refine q_5 rfl ?_
      refine q_47 (mj_ev_mono _) [] rfl rfl rfl (by decide) rfl rfl rfl ?_
      refine s_175 hP gT hn7 ?_
      rw [k6, show mI (mk 6) = nI 15 from rfl]
      refine q_6 rfl rfl rfl ?_
      refine q_3 rfl ?_
      refine q_0 ?_
      refine q_eqN (by omega) (by omega) (fun hh => absurd hh (by omega)) (fun hh => ?_)
      refine q_3 rfl ?_
      refine q_0 ?_
      refine q_ltN (by omega) (by omega) (fun hh => absurd hh (by omega)) (fun hh => ?_)
      refine q_3 rfl ?_
      refine q_0 ?_
      refine q_gtN (by omega) (by omega) (fun hh => ?_) (fun hh => absurd hh (by omega))
      refine q_3 rfl ?_
      refine q_0 ?_
      refine q_neN (by omega) (by omega) (fun hh => ?_) (fun hh => absurd hh (by omega))
      refine q_3 rfl ?_
      refine q_0 ?_
      refine q_neN (by omega) (by omega) (fun hh => ?_) (fun hh => absurd hh (by omega))
      refine q_3 rfl ?_
      refine q_0 ?_
      refine q_neN (by omega) (by omega) (fun hh => absurd hh (by omega)) (fun hh => ?_)
      refine q_5 rfl ?_
      refine q_31 rfl (by decide) ?_
      refine q_1 ?_
      refine q_eqI (fun z => absurd z z23) (fun _ => ?_)
      refine q_5 rfl ?_
      refine q_0 ?_
      refine q_47 (mj_ev_mono _) [_] rfl rfl rfl (by decide) rfl rfl rfl ?_
      refine s_176G g11.1 gT.2.2.1 ?_
      refine q_5 rfl ?_
      refine q_47 (mj_ev_mono _) [] rfl rfl rfl (by decide) rfl rfl rfl ?_
      refine s_177B z11 (by omega) (by omega) ?_
      first | refine q_neN0 (by omega) (fun hh => absurd hh (by omega)) (fun hh => ?_) | refine q_neI0 (fun hh => absurd hh (by omega)) (fun hh => ?_)
      refine q_25 ?_
      exact k _ L ((Eqf.rf.up rfl).up rfl) (fun _ _ _ => rfl) (by rw [hl]; exact SM_flt (by omega) (by omega)) (fun j' e => by rw [hl] at e; cases e)
    | none =>
      rw [ha] at m5
      have z23 : I 73 24 = -(nI 1) := m5
      have hl := lnS_6 (W := W) k6 ha
      cases ex : EX b n 6 10 (j + 1) with
      | inl q =>
        rw [ex] at hl
        refine q_5 rfl ?_
        refine q_47 (mj_ev_mono _) [] rfl rfl rfl (by decide) rfl rfl rfl ?_
        refine s_175 hP gT hn7 ?_
        rw [k6, show mI (mk 6) = nI 15 from rfl]
        refine q_6 rfl rfl rfl ?_
        refine q_3 rfl ?_
        refine q_0 ?_
        refine q_eqN (by omega) (by omega) (fun hh => absurd hh (by omega)) (fun hh => ?_)
        refine q_3 rfl ?_
        refine q_0 ?_
        refine q_ltN (by omega) (by omega) (fun hh => absurd hh (by omega)) (fun hh => ?_)
        refine q_3 rfl ?_
        refine q_0 ?_
        refine q_gtN (by omega) (by omega) (fun hh => ?_) (fun hh => absurd hh (by omega))
        refine q_3 rfl ?_
        refine q_0 ?_
        refine q_neN (by omega) (by omega) (fun hh => ?_) (fun hh => absurd hh (by omega))
        refine q_3 rfl ?_
        refine q_0 ?_
        refine q_neN (by omega) (by omega) (fun hh => ?_) (fun hh => absurd hh (by omega))
        refine q_3 rfl ?_
        refine q_0 ?_
        refine q_neN (by omega) (by omega) (fun hh => absurd hh (by omega)) (fun hh => ?_)
        refine q_5 rfl ?_
        refine q_31 rfl (by decide) ?_
        refine q_1 ?_
        refine q_eqI (fun _ => ?_) (fun z => absurd z23 z)
        refine q_5 rfl ?_
        refine q_47 (mj_ev_mono _) [] rfl rfl rfl (by decide) rfl rfl rfl ?_
        refine s_177G g11.1 ?_
        first | refine q_neN0 (by omega) (fun hh => ?_) (fun hh => absurd hh (by omega)) | refine q_neI0 (fun hh => ?_) (fun hh => absurd (by omega) hh)
        refine q_5 rfl ?_
        refine q_47 (mj_ev_mono _) [] rfl rfl rfl (by decide) rfl rfl rfl ?_
        refine s_172 (j := j + 1) hP hB gT.1 (fun I1 L1 e1 eL1 hT1 => ?_)
        have m6b : I1 73 25 = nI O.length := (e1 73 25 rfl).trans m6
        have m7b : OUT O (I1 86) := by rw [show I1 86 = I 86 from funext (fun q => e1 86 q rfl)]; exact m7
        refine q_5 rfl ?_
        refine q_5 rfl ?_
        first | refine q_31E rfl (by decide) m6b ?_ | refine q_31 rfl (by decide) ?_
        refine q_34 rfl (by decide) ?_
        refine q_5 rfl ?_
        refine q_0 ?_
        refine q_0 ?_
        refine q_47 (mj_ev_mono _) [_, _] rfl rfl rfl (by decide) rfl rfl rfl ?_
        refine s_192 (lo := 6) (hi := 10) (O := O) (j := j + 1) hP (hB.fr (fun q => e1 79 q rfl) (e1 73 14 rfl)) (hT1.fr (fun q hq => by rcases hq with rfl | rfl | rfl | rfl | rfl | rfl <;> rfl) rfl) ⟨(e1 73 11 rfl).trans g11.1, (e1 73 12 rfl).trans g11.2⟩ m6b m7b (by omega) jl (by omega) (by omega) (fun c jf e c0 c9 I3 L3 E3 EL3 f1 f2 => ?_) (fun j2 R e => by rw [ex] at e; cases e)
        rw [ex] at e
        cases e
        refine q_23 ?_
        exact fin (.inl (c, jf)) W I3 L3 _ _ _ (((e1.to rfl rfl).up rfl).tr (E3.to rfl rfl)) (eL1.tr EL3) ⟨c0, c9, f1, f2⟩ hl (fun j' e => by cases e)
      | inr q =>
        obtain ⟨j2, R⟩ := q
        rw [ex] at hl
        obtain ⟨y1, y2, y3, y4⟩ := EX_ok ex
        have y5 := tkp_add (b := b) (n := n) (j := j + 1) (j2 - (j + 1)) (fun i h1 h2 => y3 i h1 (by omega))
        rw [show j + 1 + (j2 - (j + 1)) = j2 by omega] at y5
        have y6 := tkp_le (b := b) (n := n) j2
        have y7 := enc_len R
        refine q_5 rfl ?_
        refine q_47 (mj_ev_mono _) [] rfl rfl rfl (by decide) rfl rfl rfl ?_
        refine s_175 hP gT hn7 ?_
        rw [k6, show mI (mk 6) = nI 15 from rfl]
        refine q_6 rfl rfl rfl ?_
        refine q_3 rfl ?_
        refine q_0 ?_
        refine q_eqN (by omega) (by omega) (fun hh => absurd hh (by omega)) (fun hh => ?_)
        refine q_3 rfl ?_
        refine q_0 ?_
        refine q_ltN (by omega) (by omega) (fun hh => absurd hh (by omega)) (fun hh => ?_)
        refine q_3 rfl ?_
        refine q_0 ?_
        refine q_gtN (by omega) (by omega) (fun hh => ?_) (fun hh => absurd hh (by omega))
        refine q_3 rfl ?_
        refine q_0 ?_
        refine q_neN (by omega) (by omega) (fun hh => ?_) (fun hh => absurd hh (by omega))
        refine q_3 rfl ?_
        refine q_0 ?_
        refine q_neN (by omega) (by omega) (fun hh => ?_) (fun hh => absurd hh (by omega))
        refine q_3 rfl ?_
        refine q_0 ?_
        refine q_neN (by omega) (by omega) (fun hh => absurd hh (by omega)) (fun hh => ?_)
        refine q_5 rfl ?_
        refine q_31 rfl (by decide) ?_
        refine q_1 ?_
        refine q_eqI (fun _ => ?_) (fun z => absurd z23 z)
        refine q_5 rfl ?_
        refine q_47 (mj_ev_mono _) [] rfl rfl rfl (by decide) rfl rfl rfl ?_
        refine s_177G g11.1 ?_
        first | refine q_neN0 (by omega) (fun hh => ?_) (fun hh => absurd hh (by omega)) | refine q_neI0 (fun hh => ?_) (fun hh => absurd (by omega) hh)
        refine q_5 rfl ?_
        refine q_47 (mj_ev_mono _) [] rfl rfl rfl (by decide) rfl rfl rfl ?_
        refine s_172 (j := j + 1) hP hB gT.1 (fun I1 L1 e1 eL1 hT1 => ?_)
        have m6b : I1 73 25 = nI O.length := (e1 73 25 rfl).trans m6
        have m7b : OUT O (I1 86) := by rw [show I1 86 = I 86 from funext (fun q => e1 86 q rfl)]; exact m7
        refine q_5 rfl ?_
        refine q_5 rfl ?_
        first | refine q_31E rfl (by decide) m6b ?_ | refine q_31 rfl (by decide) ?_
        refine q_34 rfl (by decide) ?_
        refine q_5 rfl ?_
        refine q_0 ?_
        refine q_0 ?_
        refine q_47 (mj_ev_mono _) [_, _] rfl rfl rfl (by decide) rfl rfl rfl ?_
        refine s_192 (lo := 6) (hi := 10) (O := O) (j := j + 1) hP (hB.fr (fun q => e1 79 q rfl) (e1 73 14 rfl)) (hT1.fr (fun q hq => by rcases hq with rfl | rfl | rfl | rfl | rfl | rfl <;> rfl) rfl) ⟨(e1 73 11 rfl).trans g11.1, (e1 73 12 rfl).trans g11.2⟩ m6b m7b (by omega) jl (by omega) (by omega) (fun c jf e => by rw [ex] at e; cases e) (fun j3 R3 e I3 L3 E3 EL3 f1 f2 f3 f4 => ?_)
        rw [ex] at e
        cases e
        refine q_23 ?_
        refine fin (.inr j2) (W.sli R) I3 L3 _ _ _ (((e1.to rfl rfl).up rfl).tr (E3.to rfl rfl)) (eL1.tr EL3) ⟨f2, f1⟩ hl (fun j' e => ⟨O ++ enc R ++ [0], ?_, ?_⟩)
        · refine ⟨((E3 73 22 rfl).trans (e1 73 22 rfl)).trans m1, fun p hp => ?_, ((E3 85 0 rfl).trans (e1 85 0 rfl)).trans m3, (by show ruleO _ (I3 73 23) _ _ _; rw [E3 73 23 rfl, show mj_upI I1 73 24 (nI O.length) 73 23 = I1 73 23 from rfl, e1 73 23 rfl]; exact (ruleO.ap m4 (enc R)).ap [0]), ⟨O, [], by rw [List.append_nil], E3 73 24 rfl, by omega, y4⟩, f3, f4⟩
          obtain ⟨b1, b2, b3, b4, b5, b6, b7⟩ := m2 p hp
          exact ⟨((E3 81 p rfl).trans (e1 81 p rfl)).trans b1, ((E3 82 p rfl).trans (e1 82 p rfl)).trans b2, ((E3 83 p rfl).trans (e1 83 p rfl)).trans b3, ((E3 84 p rfl).trans (e1 84 p rfl)).trans b4, ((E3 85 _ rfl).trans (e1 85 _ rfl)).trans b5, ((E3 85 _ rfl).trans (e1 85 _ rfl)).trans b6, ((E3 85 _ rfl).trans (e1 85 _ rfl)).trans b7⟩
        · obtain ⟨j7, z1, rfl, z3⟩ := ndS_inr e
          cases z1
          have := tkp_m1 (b := b) (n := n) (j := j2)
          rw [List.length_append, List.length_append]
          show O.length + (enc R).length + 1 ≤ _
          omega
  have k7 : 7 ≤ tK b n j := by omega
  have bad : ∀ x1 x2 x3, mj_run (mj_ev (d + 6)) k194 Q (k194 202) [some (.ref 73), x1, x2, x3] [] (107, I, L, P) 0 0 := by
    intro x1 x2 x3
    refine q_5 rfl ?_
    refine q_0 ?_
    refine q_47 (mj_ev_mono _) [_] rfl rfl rfl (by decide) rfl rfl rfl ?_
    refine s_176G g11.1 gT.2.2.1 ?_
    exact fin (.inl (1, j)) W _ L _ _ _ ((Eqf.rf.up rfl).up rfl) (fun _ _ _ => rfl) (SM_flt (by omega) (by omega)) (lnS_o k7) (fun j' e => by cases e)
  rcases mk_oth k7 with hm | ⟨v, hm, v1, v2, v3, v4⟩
  · refine q_5 rfl ?_
    refine q_47 (mj_ev_mono _) [] rfl rfl rfl (by decide) rfl rfl rfl ?_
    refine s_175 hP gT hn7 ?_
    rw [hm, show mI none = -(nI 1) from rfl]
    refine q_6 rfl rfl rfl ?_
    refine q_3 rfl ?_
    refine q_0 ?_
    refine q_eqI (fun z => absurd z (by decide)) (fun _ => ?_)
    refine q_3 rfl ?_
    refine q_0 ?_
    refine q_ltI (fun _ => ?_) (fun z => absurd (by decide) z)
    refine q_3 rfl ?_
    refine q_0 ?_
    refine q_neI (fun _ => ?_) (fun z => absurd (by decide) z)
    refine q_3 rfl ?_
    refine q_0 ?_
    refine q_neI (fun _ => ?_) (fun z => absurd (by decide) z)
    refine q_3 rfl ?_
    refine q_0 ?_
    refine q_neI (fun _ => ?_) (fun z => absurd (by decide) z)
    exact bad _ _ _
  · by_cases v5 : v < 11
    · refine q_5 rfl ?_
      refine q_47 (mj_ev_mono _) [] rfl rfl rfl (by decide) rfl rfl rfl ?_
      refine s_175 hP gT hn7 ?_
      rw [hm, show mI (some v) = nI v from rfl]
      refine q_6 rfl rfl rfl ?_
      refine q_3 rfl ?_
      refine q_0 ?_
      refine q_eqN (by omega) (by omega) (fun hh => absurd hh (by omega)) (fun hh => ?_)
      refine q_3 rfl ?_
      refine q_0 ?_
      refine q_ltN (by omega) (by omega) (fun hh => ?_) (fun hh => absurd hh (by omega))
      refine q_3 rfl ?_
      refine q_0 ?_
      refine q_neN (by omega) (by omega) (fun hh => ?_) (fun hh => absurd hh (by omega))
      refine q_3 rfl ?_
      refine q_0 ?_
      refine q_neN (by omega) (by omega) (fun hh => ?_) (fun hh => absurd hh (by omega))
      refine q_3 rfl ?_
      refine q_0 ?_
      refine q_neN (by omega) (by omega) (fun hh => ?_) (fun hh => absurd hh (by omega))
      exact bad _ _ _
    · refine q_5 rfl ?_
      refine q_47 (mj_ev_mono _) [] rfl rfl rfl (by decide) rfl rfl rfl ?_
      refine s_175 hP gT hn7 ?_
      rw [hm, show mI (some v) = nI v from rfl]
      refine q_6 rfl rfl rfl ?_
      refine q_3 rfl ?_
      refine q_0 ?_
      refine q_eqN (by omega) (by omega) (fun hh => absurd hh (by omega)) (fun hh => ?_)
      refine q_3 rfl ?_
      refine q_0 ?_
      refine q_ltN (by omega) (by omega) (fun hh => absurd hh (by omega)) (fun hh => ?_)
      refine q_3 rfl ?_
      refine q_0 ?_
      refine q_gtN (by omega) (by omega) (fun hh => ?_) (fun hh => absurd hh (by omega))
      refine q_3 rfl ?_
      refine q_0 ?_
      refine q_neN (by omega) (by omega) (fun hh => ?_) (fun hh => absurd hh (by omega))
      refine q_3 rfl ?_
      refine q_0 ?_
      refine q_neN (by omega) (by omega) (fun hh => ?_) (fun hh => absurd hh (by omega))
      refine q_3 rfl ?_
      refine q_0 ?_
      refine q_neN (by omega) (by omega) (fun hh => ?_) (fun hh => absurd hh (by omega))
      exact bad _ _ _
end M
