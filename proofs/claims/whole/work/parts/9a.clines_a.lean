/-! the class reads numbers (the draft) -/
/-- a rule told, in the steps so far -/
def ruleXa (R0 : RP) (u v : Int32) (lo hi : Nat) : Option RP → Prop
  | none => u = nI 0 ∧ v = nI 0
  | some R => ∃ k, u = nI k ∧ v = nI (k + R.length) ∧ k + R.length ≤ R0.length ∧ (∀ i q, R[i]? = some q → R0[k + i]? = some q) ∧ rpok lo hi 36 R 0 ∧ 0 < R.length
/-- what the class has read -/
def MCa (W : NR) (R0 : RP) (I : mj_I) : Prop := I 16 0 = nI W.n ∧ (∀ p, p < W.n → I 17 p = nI (W.1.pat p) ∧ I 18 p = nI (W.1.woo p) ∧ I 19 p = nI (W.1.siz p) ∧ I 20 p = nI (W.1.chm p)) ∧ I 21 0 = nI 0 ∧ (∀ p, p < 10 → I 22 p = nI (cx W.n W.c p) ∧ I 23 p = nI (cx W.n W.h p) ∧ I 24 p = mI (mx W.n W.m p)) ∧ (ruleXa R0 (I 25 2) (I 25 3) 0 6 W.1.al ∧ True) ∧ ruleXa R0 (I 25 4) (I 25 5) 6 10 W.1.li ∧ SZa R0 I
section C
variable {I : mj_I} {L : mj_L} {P : mj_P} {Q : mj_Q} {d n r j s l wi : Nat} {b : Nat → Nat} {st : ST} {lo hi M : Nat} {W : NR} {R0 : RP}
theorem MCa.g {I' : mj_I} (h : MCa W R0 I) (e : Eqf (frm [] rdG) I I') : MCa W R0 I' := by
  obtain ⟨h1, h2, h3, h4, h5, h6, h7⟩ := h
  refine ⟨(e 16 0 rfl).trans h1, fun p hp => ?_, (e 21 0 rfl).trans h3, fun p hp => ?_, ?_, ?_, h7.g e⟩
  · obtain ⟨a1, a2, a3, a4⟩ := h2 p hp
    exact ⟨(e 17 p rfl).trans a1, (e 18 p rfl).trans a2, (e 19 p rfl).trans a3, (e 20 p rfl).trans a4⟩
  · obtain ⟨a1, a2, a3⟩ := h4 p hp
    exact ⟨(e 22 p rfl).trans a1, (e 23 p rfl).trans a2, (e 24 p rfl).trans a3⟩
  · exact ⟨by rw [e 25 2 rfl, e 25 3 rfl]; exact h5.1, trivial⟩
  · rw [e 25 4 rfl, e 25 5 rfl]; exact h6
set_option maxHeartbeats 1000000 in
theorem c_45a (hP : PS 16 P) (hB : RB b n I) (hS : SC b n st I) (lo9 : lo < 100) (hi9 : hi < 100) (k : ∀ v I', Eqf (frm [] rdG) I I' → SC b n (numS b n lo hi st) I' → (∀ j j', st = .inr j → numS b n lo hi st = .inr j' → v = nI (tV b n j)) → Q (.inl (some (.int v))) (107, I', L, P)) : mj_ev (d + 7) 45 [.ref 29, .int (nI lo), .int (nI hi)] (107, I, L, P) Q := by
  refine ⟨rfl, ?_⟩
  show mj_run (mj_ev (d + 6)) k45 Q (k45 0) [some (.ref 29), some (.int (nI lo)), some (.int (nI hi)), none] [] (107, I, L, P) 0 0
  cases st with
  | inl e =>
    have hS' := hS
    obtain ⟨g1, g2, g3, g4, g5⟩ := hS
    refine q_5 rfl ?_
    refine q_31 rfl (by decide) ?_
    refine q_6 rfl rfl rfl ?_
    refine q_5 rfl ?_
    first | refine q_31E rfl (by decide) g5 ?_ | refine q_31 rfl (by decide) ?_
    refine q_0 ?_
    refine q_eqN (by omega) (by omega) (fun hh => absurd hh (by omega)) (fun hh => ?_)
    refine q_5 rfl ?_
    refine q_0 ?_
    refine q_47 (mj_ev_mono _) [_] rfl rfl rfl (by decide) rfl rfl rfl ?_
    refine c_38B g3 g1 g2 ?_
    refine q_23 ?_
    refine q_3 rfl ?_
    refine q_26 ?_
    exact k _ _ (Eqf.rf.up rfl) hS'.stop (fun j j' e1 => by cases e1)
  | inr j =>
    obtain ⟨g1, g2⟩ := hS
    have g6 := g2.kd
    have kl := tK_lt (b := b) (n := n) (j := j) (fun i hi => (hB.1 i hi).2)
    by_cases k20 : tK b n j = 20
    · obtain ⟨g7, g8⟩ := g2.2.2.2 k20
      rw [k20] at g6
      have v4 := (t_num k20).2
      have dn : tD b n j ≤ 700 := by
        have := t_adv (b := b) (n := n) (j := j) (by omega)
        have := hB.2.1
        unfold tD
        omega
      have b2 : numS b n lo hi (.inr j) = .inl (2, j) → mj_run (mj_ev (d + 6)) k45 Q (k45 40) [some (.ref 29), some (.int (nI lo)), some (.int (nI hi)), some (.int (nI (tV b n j)))] [] (107, I, L, P) 0 0 := by
        intro e
        rw [e] at k
        refine q_5 rfl ?_
        refine q_0 ?_
        refine q_47 (mj_ev_mono _) [_] rfl rfl rfl (by decide) rfl rfl rfl ?_
        refine c_38G g1 g2.2.1 ?_
        refine q_23 ?_
        refine q_3 rfl ?_
        refine q_26 ?_
        exact k _ _ (((Eqf.rf.up rfl).up rfl).up rfl) (SC_flt (by omega) (by omega)) (fun j j' _ e2 => by cases e2)
      by_cases c1 : 4 < tD b n j
      · have e : numS b n lo hi (.inr j) = .inl (2, j) := (if_neg (by omega)).trans (if_pos (Or.inl c1))
        refine q_5 rfl ?_
        first | refine q_31E rfl (by decide) g7 ?_ | refine q_31 rfl (by decide) ?_
        refine q_6 rfl rfl rfl ?_
        refine q_5 rfl ?_
        first | refine q_31E rfl (by decide) g6 ?_ | refine q_31 rfl (by decide) ?_
        refine q_0 ?_
        refine q_eqN (by omega) (by omega) (fun hh => ?_) (fun hh => absurd hh (by omega))
        refine q_5 rfl ?_
        first | refine q_31E rfl (by decide) g8 ?_ | refine q_31 rfl (by decide) ?_
        refine q_0 ?_
        refine q_gtN (by omega) (by omega) (fun hh => ?_) (fun hh => absurd hh (by omega))
        exact b2 e
      · by_cases c2 : tV b n j < lo
        · have e : numS b n lo hi (.inr j) = .inl (2, j) := (if_neg (by omega)).trans (if_pos (Or.inr (Or.inl c2)))
          refine q_5 rfl ?_
          first | refine q_31E rfl (by decide) g7 ?_ | refine q_31 rfl (by decide) ?_
          refine q_6 rfl rfl rfl ?_
          refine q_5 rfl ?_
          first | refine q_31E rfl (by decide) g6 ?_ | refine q_31 rfl (by decide) ?_
          refine q_0 ?_
          refine q_eqN (by omega) (by omega) (fun hh => ?_) (fun hh => absurd hh (by omega))
          refine q_5 rfl ?_
          first | refine q_31E rfl (by decide) g8 ?_ | refine q_31 rfl (by decide) ?_
          refine q_0 ?_
          refine q_gtN (by omega) (by omega) (fun hh => absurd hh (by omega)) (fun hh => ?_)
          refine q_3 rfl ?_
          refine q_3 rfl ?_
          refine q_ltN (by omega) (by omega) (fun hh => ?_) (fun hh => absurd hh (by omega))
          exact b2 e
        · by_cases c3 : hi < tV b n j
          · have e : numS b n lo hi (.inr j) = .inl (2, j) := (if_neg (by omega)).trans (if_pos (Or.inr (Or.inr c3)))
            refine q_5 rfl ?_
            first | refine q_31E rfl (by decide) g7 ?_ | refine q_31 rfl (by decide) ?_
            refine q_6 rfl rfl rfl ?_
            refine q_5 rfl ?_
            first | refine q_31E rfl (by decide) g6 ?_ | refine q_31 rfl (by decide) ?_
            refine q_0 ?_
            refine q_eqN (by omega) (by omega) (fun hh => ?_) (fun hh => absurd hh (by omega))
            refine q_5 rfl ?_
            first | refine q_31E rfl (by decide) g8 ?_ | refine q_31 rfl (by decide) ?_
            refine q_0 ?_
            refine q_gtN (by omega) (by omega) (fun hh => absurd hh (by omega)) (fun hh => ?_)
            refine q_3 rfl ?_
            refine q_3 rfl ?_
            refine q_ltN (by omega) (by omega) (fun hh => absurd hh (by omega)) (fun hh => ?_)
            refine q_3 rfl ?_
            refine q_3 rfl ?_
            refine q_leN (by omega) (by omega) (fun hh => absurd hh (by omega)) (fun hh => ?_)
            exact b2 e
          · have e : numS b n lo hi (.inr j) = .inr (j + 1) := (if_neg (by omega)).trans (if_neg (by omega))
            refine q_5 rfl ?_
            first | refine q_31E rfl (by decide) g7 ?_ | refine q_31 rfl (by decide) ?_
            refine q_6 rfl rfl rfl ?_
            refine q_5 rfl ?_
            first | refine q_31E rfl (by decide) g6 ?_ | refine q_31 rfl (by decide) ?_
            refine q_0 ?_
            refine q_eqN (by omega) (by omega) (fun hh => ?_) (fun hh => absurd hh (by omega))
            refine q_5 rfl ?_
            first | refine q_31E rfl (by decide) g8 ?_ | refine q_31 rfl (by decide) ?_
            refine q_0 ?_
            refine q_gtN (by omega) (by omega) (fun hh => absurd hh (by omega)) (fun hh => ?_)
            refine q_3 rfl ?_
            refine q_3 rfl ?_
            refine q_ltN (by omega) (by omega) (fun hh => absurd hh (by omega)) (fun hh => ?_)
            refine q_3 rfl ?_
            refine q_3 rfl ?_
            refine q_leN (by omega) (by omega) (fun hh => ?_) (fun hh => absurd hh (by omega))
            refine q_5 rfl ?_
            refine q_47 (mj_ev_mono _) [] rfl rfl rfl (by decide) rfl rfl rfl ?_
            refine c_39 (j := j + 1) hP hB g1 g2.1 (fun I2 e2 hT => ?_)
            refine q_3 rfl ?_
            refine q_26 ?_
            rw [e] at k
            exact k _ I2 (e2.to rfl rfl) ⟨(e2 29 9 rfl).trans g1, hT⟩ (fun j2 j' e1 _ => by cases e1; rfl)
    · have e : numS b n lo hi (.inr j) = .inl (1, j) := if_pos k20
      rw [e] at k
      refine q_5 rfl ?_
      refine q_31 rfl (by decide) ?_
      refine q_6 rfl rfl rfl ?_
      refine q_5 rfl ?_
      first | refine q_31E rfl (by decide) g6 ?_ | refine q_31 rfl (by decide) ?_
      refine q_0 ?_
      refine q_eqN (by omega) (by omega) (fun hh => absurd hh (by omega)) (fun hh => ?_)
      refine q_5 rfl ?_
      refine q_0 ?_
      refine q_47 (mj_ev_mono _) [_] rfl rfl rfl (by decide) rfl rfl rfl ?_
      refine c_38G g1 g2.2.1 ?_
      refine q_23 ?_
      refine q_3 rfl ?_
      refine q_26 ?_
      exact k _ _ (((Eqf.rf.up rfl).up rfl).up rfl) (SC_flt (by omega) (by omega)) (fun j j' _ e2 => by cases e2)
set_option maxHeartbeats 1000000 in
theorem c_47a {a : Option Nat} (hP : PS 16 P) (hB : RB b n I) (hS : SC b n st I) (hM : MCa W R0 I) (hW : W.ok) (ha : ∀ q, a = some q → q < 10000) {y : Int32} (hx : ∀ j, st = .inr j → y = mI a) (k : ∀ v I', Eqf (frm [] rdG) I I' → SC b n (ubS b n W.n W.m a st) I' → (∀ j j', st = .inr j → ubS b n W.n W.m a st = .inr j' → v = nI (tV b n j)) → Q (.inl (some (.int v))) (107, I', L, P)) : mj_ev (d + 7) 47 [.ref 29, .int y] (107, I, L, P) Q := by
  refine ⟨rfl, ?_⟩
  show mj_run (mj_ev (d + 6)) k47 Q (k47 0) [some (.ref 29), some (.int y), none] [] (107, I, L, P) 0 0
  cases st with
  | inl e =>
    have hS' := hS
    obtain ⟨g1, g2, g3, g4, g5⟩ := hS
    refine q_5 rfl ?_
    refine q_31 rfl (by decide) ?_
    refine q_6 rfl rfl rfl ?_
    refine q_5 rfl ?_
    first | refine q_31E rfl (by decide) g5 ?_ | refine q_31 rfl (by decide) ?_
    refine q_0 ?_
    refine q_eqN (by omega) (by omega) (fun hh => absurd hh (by omega)) (fun hh => ?_)
    refine q_5 rfl ?_
    refine q_0 ?_
    refine q_47 (mj_ev_mono _) [_] rfl rfl rfl (by decide) rfl rfl rfl ?_
    refine c_38B g3 g1 g2 ?_
    refine q_23 ?_
    refine q_1 ?_
    refine q_26 ?_
    exact k _ _ (Eqf.rf.up rfl) hS'.stop (fun j j' e1 => by cases e1)
  | inr j =>
    rw [hx j rfl]
    obtain ⟨g1, g2⟩ := hS
    have g6 := g2.kd
    have kl := tK_lt (b := b) (n := n) (j := j) (fun i hi => (hB.1 i hi).2)
    have h22 := hM.1
    have hn10 : W.n ≤ 10 := hW.1.1
    have bad : ∀ c, 0 < c → c < 10 → ubS b n W.n W.m a (.inr j) = .inl (c, j) → ∀ x2, mj_run (mj_ev (d + 6)) k47 Q (k47 92) [some (.ref 29), some (.int (mI a)), x2] [] (107, mj_upI (mj_upI (mj_upI I 29 9 (nI c)) 29 0 (nI (tB b n j))) 29 6 (nI 23), L, P) 0 0 := by
      intro c c0 c9 e x2
      rw [e] at k
      refine q_1 ?_
      refine q_26 ?_
      exact k _ _ (((Eqf.rf.up rfl).up rfl).up rfl) (SC_flt c0 c9) (fun j j' _ e2 => by cases e2)
    by_cases k20 : tK b n j = 20
    · obtain ⟨g7, g8⟩ := g2.2.2.2 k20
      rw [k20] at g6
      have v4 := (t_num k20).2
      have dn : tD b n j ≤ 700 := by
        have := t_adv (b := b) (n := n) (j := j) (by omega)
        have := hB.2.1
        unfold tD
        omega
      by_cases c1 : 4 < tD b n j
      · have e : ubS b n W.n W.m a (.inr j) = .inl (2, j) := (if_neg (by omega)).trans (if_pos c1)
        refine q_5 rfl ?_
        first | refine q_31E rfl (by decide) g7 ?_ | refine q_31 rfl (by decide) ?_
        refine q_6 rfl rfl rfl ?_
        refine q_5 rfl ?_
        first | refine q_31E rfl (by decide) g6 ?_ | refine q_31 rfl (by decide) ?_
        refine q_0 ?_
        refine q_eqN (by omega) (by omega) (fun hh => ?_) (fun hh => absurd hh (by omega))
        refine q_5 rfl ?_
        first | refine q_31E rfl (by decide) g8 ?_ | refine q_31 rfl (by decide) ?_
        refine q_0 ?_
        refine q_leN (by omega) (by omega) (fun hh => absurd hh (by omega)) (fun hh => ?_)
        refine q_5 rfl ?_
        refine q_0 ?_
        refine q_47 (mj_ev_mono _) [_] rfl rfl rfl (by decide) rfl rfl rfl ?_
        refine c_38G g1 g2.2.1 ?_
        refine q_23 ?_
        exact bad 2 (by omega) (by omega) e _
      · by_cases c2 : W.n ≤ tV b n j
        · have e : ubS b n W.n W.m a (.inr j) = .inl (3, j) := (if_neg (by omega)).trans ((if_neg c1).trans (if_pos c2))
          refine q_5 rfl ?_
          first | refine q_31E rfl (by decide) g7 ?_ | refine q_31 rfl (by decide) ?_
          refine q_6 rfl rfl rfl ?_
          refine q_5 rfl ?_
          first | refine q_31E rfl (by decide) g6 ?_ | refine q_31 rfl (by decide) ?_
          refine q_0 ?_
          refine q_eqN (by omega) (by omega) (fun hh => ?_) (fun hh => absurd hh (by omega))
          refine q_5 rfl ?_
          first | refine q_31E rfl (by decide) g8 ?_ | refine q_31 rfl (by decide) ?_
          refine q_0 ?_
          refine q_leN (by omega) (by omega) (fun hh => ?_) (fun hh => absurd hh (by omega))
          refine q_3 rfl ?_
          refine q_5 rfl ?_
          refine q_33 rfl (by decide) (hP _ _ _ rfl) ?_
          first | refine q_31E rfl (by decide) h22 ?_ | refine q_31 rfl (by decide) ?_
          refine q_ltN (by omega) (by omega) (fun hh => absurd hh (by omega)) (fun hh => ?_)
          refine q_5 rfl ?_
          refine q_0 ?_
          refine q_47 (mj_ev_mono _) [_] rfl rfl rfl (by decide) rfl rfl rfl ?_
          refine c_38G g1 g2.2.1 ?_
          refine q_23 ?_
          exact bad 3 (by omega) (by omega) e _
        · have g85 : I 24 (tV b n j) = mI (W.m (tV b n j)) := by
            have := (hM.2.2.2.1 (tV b n j) (by omega)).2.2
            rw [mx_lt (by omega)] at this
            exact this
          have m31 : ∀ q, W.m (tV b n j) = some q → q < 2 ^ 31 := fun q hq => by
            have := hW.2.2 _ (show tV b n j < W.n by omega) q hq
            omega
          by_cases c3 : a = some (tV b n j)
          · have e : ubS b n W.n W.m a (.inr j) = .inl (4, j) := (if_neg (by omega)).trans ((if_neg c1).trans ((if_neg c2).trans (if_pos (Or.inl c3))))
            have z : nI (tV b n j) = mI a := by rw [c3]; rfl
            refine q_5 rfl ?_
            first | refine q_31E rfl (by decide) g7 ?_ | refine q_31 rfl (by decide) ?_
            refine q_6 rfl rfl rfl ?_
            refine q_5 rfl ?_
            first | refine q_31E rfl (by decide) g6 ?_ | refine q_31 rfl (by decide) ?_
            refine q_0 ?_
            refine q_eqN (by omega) (by omega) (fun hh => ?_) (fun hh => absurd hh (by omega))
            refine q_5 rfl ?_
            first | refine q_31E rfl (by decide) g8 ?_ | refine q_31 rfl (by decide) ?_
            refine q_0 ?_
            refine q_leN (by omega) (by omega) (fun hh => ?_) (fun hh => absurd hh (by omega))
            refine q_3 rfl ?_
            refine q_5 rfl ?_
            refine q_33 rfl (by decide) (hP _ _ _ rfl) ?_
            first | refine q_31E rfl (by decide) h22 ?_ | refine q_31 rfl (by decide) ?_
            refine q_ltN (by omega) (by omega) (fun hh => ?_) (fun hh => absurd hh (by omega))
            refine q_3 rfl ?_
            refine q_3 rfl ?_
            refine q_eqI (fun _ => ?_) (fun w => absurd z w)
            refine q_5 rfl ?_
            refine q_0 ?_
            refine q_47 (mj_ev_mono _) [_] rfl rfl rfl (by decide) rfl rfl rfl ?_
            refine c_38G g1 g2.2.1 ?_
            refine q_23 ?_
            exact bad 4 (by omega) (by omega) e _
          · have z : ¬ nI (tV b n j) = mI a := fun w => c3 ((mI_inj (m := some (tV b n j)) (m' := a) (fun q e => by cases e; omega) (fun q e => by have := ha q e; omega)).mp w).symm
            by_cases c4 : W.m (tV b n j) = none
            · have e : ubS b n W.n W.m a (.inr j) = .inr (j + 1) := (if_neg (by omega)).trans ((if_neg c1).trans ((if_neg c2).trans (if_neg (fun q => q.elim c3 (fun w => w c4)))))
              have z4 : mI (W.m (tV b n j)) = -(nI 1) := by rw [c4]; rfl
              refine q_5 rfl ?_
              first | refine q_31E rfl (by decide) g7 ?_ | refine q_31 rfl (by decide) ?_
              refine q_6 rfl rfl rfl ?_
              refine q_5 rfl ?_
              first | refine q_31E rfl (by decide) g6 ?_ | refine q_31 rfl (by decide) ?_
              refine q_0 ?_
              refine q_eqN (by omega) (by omega) (fun hh => ?_) (fun hh => absurd hh (by omega))
              refine q_5 rfl ?_
              first | refine q_31E rfl (by decide) g8 ?_ | refine q_31 rfl (by decide) ?_
              refine q_0 ?_
              refine q_leN (by omega) (by omega) (fun hh => ?_) (fun hh => absurd hh (by omega))
              refine q_3 rfl ?_
              refine q_5 rfl ?_
              refine q_33 rfl (by decide) (hP _ _ _ rfl) ?_
              first | refine q_31E rfl (by decide) h22 ?_ | refine q_31 rfl (by decide) ?_
              refine q_ltN (by omega) (by omega) (fun hh => ?_) (fun hh => absurd hh (by omega))
              refine q_3 rfl ?_
              refine q_3 rfl ?_
              refine q_eqI (fun w => absurd w z) (fun _ => ?_)
              refine q_5 rfl ?_
              refine q_33 rfl (by decide) (hP _ _ _ rfl) ?_
              refine q_33 rfl (by decide) (hP _ _ _ rfl) ?_
              refine q_33 rfl (by decide) (hP _ _ _ rfl) ?_
              refine q_3 rfl ?_
              first | refine q_38E _ rfl (by decide) rfl (by show _ < 10; omega) (by decide) (g85) ?_ | refine q_38 _ rfl (by decide) rfl (by show _ < 10; omega) (by decide) ?_
              refine q_1 ?_
              refine q_eqI (fun _ => ?_) (fun w => absurd z4 w)
              refine q_5 rfl ?_
              refine q_47 (mj_ev_mono _) [] rfl rfl rfl (by decide) rfl rfl rfl ?_
              refine c_39 (j := j + 1) hP hB g1 g2.1 (fun I2 e2 hT => ?_)
              refine q_3 rfl ?_
              refine q_26 ?_
              rw [e] at k
              exact k _ I2 (e2.to rfl rfl) ⟨(e2 29 9 rfl).trans g1, hT⟩ (fun j2 j' e1 _ => by cases e1; rfl)
            · have e : ubS b n W.n W.m a (.inr j) = .inl (4, j) := (if_neg (by omega)).trans ((if_neg c1).trans ((if_neg c2).trans (if_pos (Or.inr c4))))
              have z4 : ¬ mI (W.m (tV b n j)) = -(nI 1) := fun w => c4 ((mI_eq m31).mp w)
              refine q_5 rfl ?_
              first | refine q_31E rfl (by decide) g7 ?_ | refine q_31 rfl (by decide) ?_
              refine q_6 rfl rfl rfl ?_
              refine q_5 rfl ?_
              first | refine q_31E rfl (by decide) g6 ?_ | refine q_31 rfl (by decide) ?_
              refine q_0 ?_
              refine q_eqN (by omega) (by omega) (fun hh => ?_) (fun hh => absurd hh (by omega))
              refine q_5 rfl ?_
              first | refine q_31E rfl (by decide) g8 ?_ | refine q_31 rfl (by decide) ?_
              refine q_0 ?_
              refine q_leN (by omega) (by omega) (fun hh => ?_) (fun hh => absurd hh (by omega))
              refine q_3 rfl ?_
              refine q_5 rfl ?_
              refine q_33 rfl (by decide) (hP _ _ _ rfl) ?_
              first | refine q_31E rfl (by decide) h22 ?_ | refine q_31 rfl (by decide) ?_
              refine q_ltN (by omega) (by omega) (fun hh => ?_) (fun hh => absurd hh (by omega))
              refine q_3 rfl ?_
              refine q_3 rfl ?_
              refine q_eqI (fun w => absurd w z) (fun _ => ?_)
              refine q_5 rfl ?_
              refine q_33 rfl (by decide) (hP _ _ _ rfl) ?_
              refine q_33 rfl (by decide) (hP _ _ _ rfl) ?_
              refine q_33 rfl (by decide) (hP _ _ _ rfl) ?_
              refine q_3 rfl ?_
              first | refine q_38E _ rfl (by decide) rfl (by show _ < 10; omega) (by decide) (g85) ?_ | refine q_38 _ rfl (by decide) rfl (by show _ < 10; omega) (by decide) ?_
              refine q_1 ?_
              refine q_eqI (fun w => absurd w z4) (fun _ => ?_)
              refine q_5 rfl ?_
              refine q_0 ?_
              refine q_47 (mj_ev_mono _) [_] rfl rfl rfl (by decide) rfl rfl rfl ?_
              refine c_38G g1 g2.2.1 ?_
              refine q_23 ?_
              exact bad 4 (by omega) (by omega) e _
    · have e : ubS b n W.n W.m a (.inr j) = .inl (1, j) := if_pos k20
      refine q_5 rfl ?_
      refine q_31 rfl (by decide) ?_
      refine q_6 rfl rfl rfl ?_
      refine q_5 rfl ?_
      first | refine q_31E rfl (by decide) g6 ?_ | refine q_31 rfl (by decide) ?_
      refine q_0 ?_
      refine q_eqN (by omega) (by omega) (fun hh => absurd hh (by omega)) (fun hh => ?_)
      refine q_5 rfl ?_
      refine q_0 ?_
      refine q_47 (mj_ev_mono _) [_] rfl rfl rfl (by decide) rfl rfl rfl ?_
      refine c_38G g1 g2.2.1 ?_
      refine q_23 ?_
      exact bad 1 (by omega) (by omega) e _
end C
