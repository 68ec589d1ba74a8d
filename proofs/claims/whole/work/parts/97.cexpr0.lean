/-! the class reads: signs, nots, joins, steps -/
def SC (b : Nat → Nat) (n : Nat) (st : ST) (I : mj_I) : Prop := match st with
  | .inl e => 0 < e.1 ∧ e.1 < 10 ∧ I 29 9 = nI e.1 ∧ I 29 0 = nI (tB b n e.2) ∧ I 29 6 = nI 23
  | .inr j => I 29 9 = nI 0 ∧ TR b n j I
def rdG : List (Nat × Nat) := (29, 0) :: (29, 9) :: tcF
def ovS (b : Nat → Nat) (n x : Nat) : ST → ST
  | .inl e => .inl e
  | .inr j => if tK b n j = x then .inr (j + 1) else .inl (1, j)
theorem ovS_59 {b : Nat → Nat} {n : Nat} {st : ST} : ovS b n 59 st = ndS b n st := by cases st <;> rfl
/-- what joinHere answers -/
def jI (l k : Nat) : Int32 := match jn l k with
  | none => -(nI 1)
  | some t => nI (kd t)
theorem tK_lt {b : Nat → Nat} {n j : Nat} (hb : ∀ i, i < n → b i < 256) : tK b n j < 300 := by
  unfold tK knd1
  split
  · omega
  · split
    · have := kwd_le (b := b) (s := tB b n j) (l := wnd b n (tB b n j) - tB b n j)
      omega
    · split
      · omega
      · split
        · have := hb (tB b n j) (by omega)
          omega
        · omega
section C
variable {I : mj_I} {L : mj_L} {P : mj_P} {Q : mj_Q} {d n r t j s l k : Nat} {b : Nat → Nat} {st : ST}
theorem TR.fr {I' : mj_I} (h : TR b n j I) (e : ∀ q, q = 4 ∨ q = 5 ∨ q = 6 ∨ q = 7 ∨ q = 8 → I' 29 q = I 29 q) : TR b n j I' := by
  obtain ⟨h1, h2, h3, h4⟩ := h
  exact ⟨(e 4 (by omega)).trans h1, (e 5 (by omega)).trans h2, (e 6 (by omega)).trans h3, fun q => ⟨(e 7 (by omega)).trans (h4 q).1, (e 8 (by omega)).trans (h4 q).2⟩⟩
theorem SC.fr {I' : mj_I} (h : SC b n st I) (e : ∀ q, q = 0 ∨ q = 4 ∨ q = 5 ∨ q = 6 ∨ q = 7 ∨ q = 8 ∨ q = 9 → I' 29 q = I 29 q) : SC b n st I' := by
  cases st with
  | inl q =>
    obtain ⟨h1, h2, h3, h4, h5⟩ := h
    exact ⟨h1, h2, (e 9 (by omega)).trans h3, (e 0 (by omega)).trans h4, (e 6 (by omega)).trans h5⟩
  | inr j =>
    obtain ⟨h1, h2⟩ := h
    exact ⟨(e 9 (by omega)).trans h1, h2.fr (fun q hq => e q (by omega))⟩
theorem SC_flt {c : Nat} (c0 : 0 < c) (c9 : c < 10) : SC b n (.inl (c, j)) (mj_upI (mj_upI (mj_upI I 29 9 (nI c)) 29 0 (nI (tB b n j))) 29 6 (nI 23)) := ⟨c0, c9, rfl, rfl, rfl⟩
theorem SC.stop {e : Nat × Nat} (h : SC b n (.inl e) I) : SC b n (.inl e) (mj_upI I 29 6 (nI 23)) := ⟨h.1, h.2.1, h.2.2.1, h.2.2.2.1, rfl⟩
theorem TR.kd (h : TR b n j I) : I 29 6 = nI (tK b n j) := h.2.2.1
theorem c_42 (h6 : I 29 6 = nI k) (hk : k < 300) (kk : Q (.inl (some (.int (nI (if k ≤ 19 then 1 else 0))))) (107, I, L, P)) : mj_ev (d + 1) 42 [.ref 29] (107, I, L, P) Q := by
  refine ⟨rfl, ?_⟩
  show mj_run (mj_ev d) k42 Q (k42 0) [some (.ref 29)] [] (107, I, L, P) 0 0
  by_cases c : k ≤ 19
  · rw [if_pos c] at kk
    refine q_5 rfl ?_
    first | refine q_31E rfl (by decide) h6 ?_ | refine q_31 rfl (by decide) ?_
    refine q_0 ?_
    refine q_gtN (by omega) (by omega) (fun hh => absurd hh (by omega)) (fun hh => ?_)
    refine q_0 ?_
    refine q_23 ?_
    refine q_27 (by first | exact Or.inl rfl | exact Or.inr rfl | assumption | (split <;> first | exact Or.inl rfl | exact Or.inr rfl)) ?_
    exact kk
  · rw [if_neg c] at kk
    refine q_5 rfl ?_
    first | refine q_31E rfl (by decide) h6 ?_ | refine q_31 rfl (by decide) ?_
    refine q_0 ?_
    refine q_gtN (by omega) (by omega) (fun hh => ?_) (fun hh => absurd hh (by omega))
    refine q_0 ?_
    refine q_27 (by first | exact Or.inl rfl | exact Or.inr rfl | assumption | (split <;> first | exact Or.inl rfl | exact Or.inr rfl)) ?_
    exact kk
theorem c_43 {x : Nat} (hx : x = 41 ∨ x = 59) (hP : PS t P) (hB : RB b n I) (hS : SC b n st I) (kk : ∀ I', Eqf (frm [] rdG) I I' → SC b n (ovS b n x st) I' → Q (.inl none) (107, I', L, P)) : mj_ev (d + 7) 43 [.ref 29, .int (nI x)] (107, I, L, P) Q := by
  refine ⟨rfl, ?_⟩
  show mj_run (mj_ev (d + 6)) k43 Q (k43 0) [some (.ref 29), some (.int (nI x))] [] (107, I, L, P) 0 0
  cases st with
  | inl e =>
    have hS' := hS
    obtain ⟨g1, g2, g3, g4, g5⟩ := hS
    refine q_5 rfl ?_
    first | refine q_31E rfl (by decide) g5 ?_ | refine q_31 rfl (by decide) ?_
    refine q_3 rfl ?_
    refine q_neN (by omega) (by omega) (fun hh => ?_) (fun hh => absurd hh (by omega))
    refine q_5 rfl ?_
    refine q_0 ?_
    refine q_47 (mj_ev_mono _) [_] rfl rfl rfl (by decide) rfl rfl rfl ?_
    refine c_38B g3 g1 g2 ?_
    refine q_25 ?_
    exact kk _ (Eqf.rf.up rfl) hS'.stop
  | inr j =>
    obtain ⟨g1, g2⟩ := hS
    have g6 := g2.kd
    have kl := tK_lt (b := b) (n := n) (j := j) (fun i hi => (hB.1 i hi).2)
    by_cases c : tK b n j = x
    · have e : ovS b n x (.inr j) = .inr (j + 1) := if_pos c
      rw [e] at kk
      refine q_5 rfl ?_
      first | refine q_31E rfl (by decide) g6 ?_ | refine q_31 rfl (by decide) ?_
      refine q_3 rfl ?_
      refine q_neN (by omega) (by omega) (fun hh => absurd hh (by omega)) (fun hh => ?_)
      refine q_5 rfl ?_
      refine q_47 (mj_ev_mono _) [] rfl rfl rfl (by decide) rfl rfl rfl ?_
      refine c_39 (j := j + 1) hP hB g1 g2.1 (fun I2 e2 hT => ?_)
      refine q_23 ?_
      refine q_25 ?_
      exact kk I2 (e2.to rfl rfl) ⟨(e2 29 9 rfl).trans g1, hT⟩
    · have e : ovS b n x (.inr j) = .inl (1, j) := if_neg c
      rw [e] at kk
      refine q_5 rfl ?_
      first | refine q_31E rfl (by decide) g6 ?_ | refine q_31 rfl (by decide) ?_
      refine q_3 rfl ?_
      refine q_neN (by omega) (by omega) (fun hh => ?_) (fun hh => absurd hh (by omega))
      refine q_5 rfl ?_
      refine q_0 ?_
      refine q_47 (mj_ev_mono _) [_] rfl rfl rfl (by decide) rfl rfl rfl ?_
      refine c_38G g1 g2.2.1 ?_
      refine q_25 ?_
      exact kk _ (((Eqf.rf.up rfl).up rfl).up rfl) (SC_flt (by omega) (by omega))
theorem c_50B (h6 : I 29 6 = nI 23) (kk : Q (.inl (some (.int (nI 0)))) (107, I, L, P)) : mj_ev (d + 1) 50 [.ref 29] (107, I, L, P) Q := by
  refine ⟨rfl, ?_⟩
  show mj_run (mj_ev d) k50 Q (k50 0) [some (.ref 29), none] [] (107, I, L, P) 0 0
  refine q_0 ?_
  refine q_6 rfl rfl rfl ?_
  refine q_3 rfl ?_
  refine q_0 ?_
  refine q_geN (by omega) (by omega) (fun hh => absurd hh (by omega)) (fun hh => ?_)
  refine q_5 rfl ?_
  first | refine q_31E rfl (by decide) h6 ?_ | refine q_31 rfl (by decide) ?_
  refine q_0 ?_
  refine q_neN (by omega) (by omega) (fun hh => ?_) (fun hh => absurd hh (by omega))
  refine q_5 rfl ?_
  first | refine q_31E rfl (by decide) h6 ?_ | refine q_31 rfl (by decide) ?_
  refine q_0 ?_
  refine q_neN (by omega) (by omega) (fun hh => ?_) (fun hh => absurd hh (by omega))
  refine q_3 rfl ?_
  refine q_26 ?_
  exact kk
theorem c_50 (hP : PS t P) (hB : RB b n I) (hS : SC b n (.inr j) I) (kG : nts (tK b n) 7 j < 7 → ∀ I', Eqf (frm [] rdG) I I' → SC b n (.inr (j + nts (tK b n) 7 j)) I' → Q (.inl (some (.int (nI (nts (tK b n) 7 j))))) (107, I', L, P)) (kF : nts (tK b n) 7 j = 7 → ∀ I', Eqf (frm [] rdG) I I' → SC b n (.inl (2, j + 6)) I' → Q (.inl (some (.int (nI 6)))) (107, I', L, P)) : mj_ev (d + 7) 50 [.ref 29] (107, I, L, P) Q := by
  refine ⟨rfl, ?_⟩
  have n7 := nts_le (K := tK b n) (c := 7) (j := j)
  have fB : ∀ {I' : mj_I}, Eqf (frm [] rdG) I I' → RB b n I' := fun E => hB.fr (fun q => E 1 q rfl) (E 29 3 rfl)
  have kl : ∀ j, tK b n j < 300 := fun j => tK_lt (fun i hi => (hB.1 i hi).2)
  have lp : ∀ c, c ≤ min4 0 + (if nts (tK b n) 7 j = 7 then 6 else nts (tK b n) 7 j) → ∀ I', Eqf (frm [] rdG) I I' → SC b n (.inr (j + c)) I' → mj_run (mj_ev (d + 6)) k50 Q (k50 2) [some (.ref 29), some (.int (nI c))] [] (107, I', L, P) 0 0 := by
    have m0 : min4 0 = 0 := rfl
    rw [m0, Nat.zero_add]
    refine loop_up ?_ (fun c hc ih => ?_)
    · intro I' E hS
      obtain ⟨g1, g2⟩ := hS
      have g6 := g2.kd
      by_cases c7 : nts (tK b n) 7 j = 7
      · rw [if_pos c7] at g2 g6 ⊢
        have k9 := nts_is (K := tK b n) (c := 7) (j := j) (i := 6) (by omega)
        rw [k9] at g6
        refine q_3 rfl ?_
        refine q_0 ?_
        refine q_geN (by omega) (by omega) (fun hh => ?_) (fun hh => absurd hh (by omega))
        refine q_5 rfl ?_
        first | refine q_31E rfl (by decide) g6 ?_ | refine q_31 rfl (by decide) ?_
        refine q_0 ?_
        refine q_neN (by omega) (by omega) (fun hh => absurd hh (by omega)) (fun hh => ?_)
        refine q_5 rfl ?_
        refine q_0 ?_
        refine q_47 (mj_ev_mono _) [_] rfl rfl rfl (by decide) rfl rfl rfl ?_
        refine c_38G g1 g2.2.1 ?_
        refine q_3 rfl ?_
        refine q_26 ?_
        exact kF c7 _ (((E.up rfl).up rfl).up rfl) (SC_flt (by omega) (by omega))
      · rw [if_neg c7] at g2 g6 ⊢
        have k9 := nts_not (K := tK b n) (c := 7) (j := j) (by omega)
        have kl' := kl (j + nts (tK b n) 7 j)
        have hS' : SC b n (.inr (j + nts (tK b n) 7 j)) I' := ⟨g1, g2⟩
        by_cases c6 : nts (tK b n) 7 j = 6
        · refine q_3 rfl ?_
          refine q_0 ?_
          refine q_geN (by omega) (by omega) (fun hh => ?_) (fun hh => absurd hh (by omega))
          refine q_5 rfl ?_
          first | refine q_31E rfl (by decide) g6 ?_ | refine q_31 rfl (by decide) ?_
          refine q_0 ?_
          refine q_neN (by omega) (by omega) (fun hh => ?_) (fun hh => absurd hh (by omega))
          refine q_3 rfl ?_
          refine q_26 ?_
          exact kG (by omega) I' E hS'
        · refine q_3 rfl ?_
          refine q_0 ?_
          refine q_geN (by omega) (by omega) (fun hh => absurd hh (by omega)) (fun hh => ?_)
          refine q_5 rfl ?_
          first | refine q_31E rfl (by decide) g6 ?_ | refine q_31 rfl (by decide) ?_
          refine q_0 ?_
          refine q_neN (by omega) (by omega) (fun hh => ?_) (fun hh => absurd hh (by omega))
          refine q_5 rfl ?_
          first | refine q_31E rfl (by decide) g6 ?_ | refine q_31 rfl (by decide) ?_
          refine q_0 ?_
          refine q_neN (by omega) (by omega) (fun hh => ?_) (fun hh => absurd hh (by omega))
          refine q_3 rfl ?_
          refine q_26 ?_
          exact kG (by omega) I' E hS'
    · intro I' E hS
      obtain ⟨g1, g2⟩ := hS
      have g6 := g2.kd
      have c6 : c < 6 ∧ c < nts (tK b n) 7 j := by
        split at hc
        · omega
        · omega
      have k9 := nts_is (K := tK b n) (c := 7) (j := j) (i := c) c6.2
      rw [k9] at g6
      refine q_3 rfl ?_
      refine q_0 ?_
      refine q_geN (by omega) (by omega) (fun hh => absurd hh (by omega)) (fun hh => ?_)
      refine q_5 rfl ?_
      first | refine q_31E rfl (by decide) g6 ?_ | refine q_31 rfl (by decide) ?_
      refine q_0 ?_
      refine q_neN (by omega) (by omega) (fun hh => absurd hh (by omega)) (fun hh => ?_)
      refine q_5 rfl ?_
      refine q_47 (mj_ev_mono _) [] rfl rfl rfl (by decide) rfl rfl rfl ?_
      refine c_39 (j := j + c + 1) hP (fB E) g1 g2.1 (fun I2 e2 hT => ?_)
      first | refine q_inc rfl rfl rfl ?_ | refine q_9 rfl rfl rfl ?_
      refine q_23 ?_
      exact ih I2 (E.tr (e2.to rfl rfl)) ⟨(e2 29 9 rfl).trans g1, hT⟩
  show mj_run (mj_ev (d + 6)) k50 Q (k50 0) [some (.ref 29), none] [] (107, I, L, P) 0 0
  refine q_0 ?_
  refine q_6 rfl rfl rfl ?_
  exact lp 0 (Nat.zero_le _) I Eqf.rf hS
theorem c_51 (h6 : I 29 6 = nI k) (hk : k < 300) (hl : l ≤ 4) (kk : Q (.inl (some (.int (jI l k)))) (107, I, L, P)) : mj_ev (d + 1) 51 [.ref 29, .int (nI l)] (107, I, L, P) Q := by
  refine ⟨rfl, ?_⟩
  show mj_run (mj_ev d) k51 Q (k51 0) [some (.ref 29), some (.int (nI l))] [] (107, I, L, P) 0 0
  by_cases oth : k = 7 ∨ k = 8 ∨ k = 42 ∨ k = 43 ∨ k = 45 ∨ k = 47 ∨ k = 60 ∨ k = 61
  · rcases show l = 0 ∨ l = 1 ∨ l = 2 ∨ l = 3 ∨ l = 4 by omega with rfl | rfl | rfl | rfl | rfl
    · rcases oth with rfl | rfl | rfl | rfl | rfl | rfl | rfl | rfl
      · refine q_5 rfl ?_
        first | refine q_31E rfl (by decide) h6 ?_ | refine q_31 rfl (by decide) ?_
        refine q_24E (t := 80) (rfl) ?_
        refine q_3 rfl ?_
        first | refine q_neN0 (by omega) (fun hh => absurd hh (by omega)) (fun hh => ?_) | refine q_neI0 (fun hh => absurd hh (by omega)) (fun hh => ?_)
        refine q_0 ?_
        refine q_23 ?_
        refine q_26 ?_
        exact kk
      · refine q_5 rfl ?_
        first | refine q_31E rfl (by decide) h6 ?_ | refine q_31 rfl (by decide) ?_
        refine q_24E (t := 90) (rfl) ?_
        refine q_3 rfl ?_
        refine q_0 ?_
        refine q_neN (by omega) (by omega) (fun hh => ?_) (fun hh => absurd hh (by omega))
        refine q_1 ?_
        refine q_26 ?_
        exact kk
      · refine q_5 rfl ?_
        first | refine q_31E rfl (by decide) h6 ?_ | refine q_31 rfl (by decide) ?_
        refine q_24E (t := 148) (rfl) ?_
        refine q_3 rfl ?_
        refine q_0 ?_
        refine q_neN (by omega) (by omega) (fun hh => ?_) (fun hh => absurd hh (by omega))
        refine q_1 ?_
        refine q_26 ?_
        exact kk
      · refine q_5 rfl ?_
        first | refine q_31E rfl (by decide) h6 ?_ | refine q_31 rfl (by decide) ?_
        refine q_24E (t := 124) (rfl) ?_
        refine q_3 rfl ?_
        refine q_0 ?_
        refine q_neN (by omega) (by omega) (fun hh => ?_) (fun hh => absurd hh (by omega))
        refine q_1 ?_
        refine q_26 ?_
        exact kk
      · refine q_5 rfl ?_
        first | refine q_31E rfl (by decide) h6 ?_ | refine q_31 rfl (by decide) ?_
        refine q_24E (t := 136) (rfl) ?_
        refine q_3 rfl ?_
        refine q_0 ?_
        refine q_neN (by omega) (by omega) (fun hh => ?_) (fun hh => absurd hh (by omega))
        refine q_1 ?_
        refine q_26 ?_
        exact kk
      · refine q_5 rfl ?_
        first | refine q_31E rfl (by decide) h6 ?_ | refine q_31 rfl (by decide) ?_
        refine q_24E (t := 160) (rfl) ?_
        refine q_3 rfl ?_
        refine q_0 ?_
        refine q_neN (by omega) (by omega) (fun hh => ?_) (fun hh => absurd hh (by omega))
        refine q_1 ?_
        refine q_26 ?_
        exact kk
      · refine q_5 rfl ?_
        first | refine q_31E rfl (by decide) h6 ?_ | refine q_31 rfl (by decide) ?_
        refine q_24E (t := 101) (rfl) ?_
        refine q_3 rfl ?_
        refine q_0 ?_
        refine q_neN (by omega) (by omega) (fun hh => ?_) (fun hh => absurd hh (by omega))
        refine q_1 ?_
        refine q_26 ?_
        exact kk
      · refine q_5 rfl ?_
        first | refine q_31E rfl (by decide) h6 ?_ | refine q_31 rfl (by decide) ?_
        refine q_24E (t := 112) (rfl) ?_
        refine q_3 rfl ?_
        refine q_0 ?_
        refine q_neN (by omega) (by omega) (fun hh => ?_) (fun hh => absurd hh (by omega))
        refine q_1 ?_
        refine q_26 ?_
        exact kk
    · rcases oth with rfl | rfl | rfl | rfl | rfl | rfl | rfl | rfl
      · refine q_5 rfl ?_
        first | refine q_31E rfl (by decide) h6 ?_ | refine q_31 rfl (by decide) ?_
        refine q_24E (t := 80) (rfl) ?_
        refine q_3 rfl ?_
        first | refine q_neN0 (by omega) (fun hh => ?_) (fun hh => absurd hh (by omega)) | refine q_neI0 (fun hh => ?_) (fun hh => absurd (by omega) hh)
        refine q_1 ?_
        refine q_26 ?_
        exact kk
      · refine q_5 rfl ?_
        first | refine q_31E rfl (by decide) h6 ?_ | refine q_31 rfl (by decide) ?_
        refine q_24E (t := 90) (rfl) ?_
        refine q_3 rfl ?_
        refine q_0 ?_
        refine q_neN (by omega) (by omega) (fun hh => absurd hh (by omega)) (fun hh => ?_)
        refine q_0 ?_
        refine q_23 ?_
        refine q_26 ?_
        exact kk
      · refine q_5 rfl ?_
        first | refine q_31E rfl (by decide) h6 ?_ | refine q_31 rfl (by decide) ?_
        refine q_24E (t := 148) (rfl) ?_
        refine q_3 rfl ?_
        refine q_0 ?_
        refine q_neN (by omega) (by omega) (fun hh => ?_) (fun hh => absurd hh (by omega))
        refine q_1 ?_
        refine q_26 ?_
        exact kk
      · refine q_5 rfl ?_
        first | refine q_31E rfl (by decide) h6 ?_ | refine q_31 rfl (by decide) ?_
        refine q_24E (t := 124) (rfl) ?_
        refine q_3 rfl ?_
        refine q_0 ?_
        refine q_neN (by omega) (by omega) (fun hh => ?_) (fun hh => absurd hh (by omega))
        refine q_1 ?_
        refine q_26 ?_
        exact kk
      · refine q_5 rfl ?_
        first | refine q_31E rfl (by decide) h6 ?_ | refine q_31 rfl (by decide) ?_
        refine q_24E (t := 136) (rfl) ?_
        refine q_3 rfl ?_
        refine q_0 ?_
        refine q_neN (by omega) (by omega) (fun hh => ?_) (fun hh => absurd hh (by omega))
        refine q_1 ?_
        refine q_26 ?_
        exact kk
      · refine q_5 rfl ?_
        first | refine q_31E rfl (by decide) h6 ?_ | refine q_31 rfl (by decide) ?_
        refine q_24E (t := 160) (rfl) ?_
        refine q_3 rfl ?_
        refine q_0 ?_
        refine q_neN (by omega) (by omega) (fun hh => ?_) (fun hh => absurd hh (by omega))
        refine q_1 ?_
        refine q_26 ?_
        exact kk
      · refine q_5 rfl ?_
        first | refine q_31E rfl (by decide) h6 ?_ | refine q_31 rfl (by decide) ?_
        refine q_24E (t := 101) (rfl) ?_
        refine q_3 rfl ?_
        refine q_0 ?_
        refine q_neN (by omega) (by omega) (fun hh => ?_) (fun hh => absurd hh (by omega))
        refine q_1 ?_
        refine q_26 ?_
        exact kk
      · refine q_5 rfl ?_
        first | refine q_31E rfl (by decide) h6 ?_ | refine q_31 rfl (by decide) ?_
        refine q_24E (t := 112) (rfl) ?_
        refine q_3 rfl ?_
        refine q_0 ?_
        refine q_neN (by omega) (by omega) (fun hh => ?_) (fun hh => absurd hh (by omega))
        refine q_1 ?_
        refine q_26 ?_
        exact kk
    · rcases oth with rfl | rfl | rfl | rfl | rfl | rfl | rfl | rfl
      · refine q_5 rfl ?_
        first | refine q_31E rfl (by decide) h6 ?_ | refine q_31 rfl (by decide) ?_
        refine q_24E (t := 80) (rfl) ?_
        refine q_3 rfl ?_
        first | refine q_neN0 (by omega) (fun hh => ?_) (fun hh => absurd hh (by omega)) | refine q_neI0 (fun hh => ?_) (fun hh => absurd (by omega) hh)
        refine q_1 ?_
        refine q_26 ?_
        exact kk
      · refine q_5 rfl ?_
        first | refine q_31E rfl (by decide) h6 ?_ | refine q_31 rfl (by decide) ?_
        refine q_24E (t := 90) (rfl) ?_
        refine q_3 rfl ?_
        refine q_0 ?_
        refine q_neN (by omega) (by omega) (fun hh => ?_) (fun hh => absurd hh (by omega))
        refine q_1 ?_
        refine q_26 ?_
        exact kk
      · refine q_5 rfl ?_
        first | refine q_31E rfl (by decide) h6 ?_ | refine q_31 rfl (by decide) ?_
        refine q_24E (t := 148) (rfl) ?_
        refine q_3 rfl ?_
        refine q_0 ?_
        refine q_neN (by omega) (by omega) (fun hh => ?_) (fun hh => absurd hh (by omega))
        refine q_1 ?_
        refine q_26 ?_
        exact kk
      · refine q_5 rfl ?_
        first | refine q_31E rfl (by decide) h6 ?_ | refine q_31 rfl (by decide) ?_
        refine q_24E (t := 124) (rfl) ?_
        refine q_3 rfl ?_
        refine q_0 ?_
        refine q_neN (by omega) (by omega) (fun hh => ?_) (fun hh => absurd hh (by omega))
        refine q_1 ?_
        refine q_26 ?_
        exact kk
      · refine q_5 rfl ?_
        first | refine q_31E rfl (by decide) h6 ?_ | refine q_31 rfl (by decide) ?_
        refine q_24E (t := 136) (rfl) ?_
        refine q_3 rfl ?_
        refine q_0 ?_
        refine q_neN (by omega) (by omega) (fun hh => ?_) (fun hh => absurd hh (by omega))
        refine q_1 ?_
        refine q_26 ?_
        exact kk
      · refine q_5 rfl ?_
        first | refine q_31E rfl (by decide) h6 ?_ | refine q_31 rfl (by decide) ?_
        refine q_24E (t := 160) (rfl) ?_
        refine q_3 rfl ?_
        refine q_0 ?_
        refine q_neN (by omega) (by omega) (fun hh => ?_) (fun hh => absurd hh (by omega))
        refine q_1 ?_
        refine q_26 ?_
        exact kk
      · refine q_5 rfl ?_
        first | refine q_31E rfl (by decide) h6 ?_ | refine q_31 rfl (by decide) ?_
        refine q_24E (t := 101) (rfl) ?_
        refine q_3 rfl ?_
        refine q_0 ?_
        refine q_neN (by omega) (by omega) (fun hh => absurd hh (by omega)) (fun hh => ?_)
        refine q_0 ?_
        refine q_23 ?_
        refine q_26 ?_
        exact kk
      · refine q_5 rfl ?_
        first | refine q_31E rfl (by decide) h6 ?_ | refine q_31 rfl (by decide) ?_
        refine q_24E (t := 112) (rfl) ?_
        refine q_3 rfl ?_
        refine q_0 ?_
        refine q_neN (by omega) (by omega) (fun hh => absurd hh (by omega)) (fun hh => ?_)
        refine q_0 ?_
        refine q_23 ?_
        refine q_26 ?_
        exact kk
    · rcases oth with rfl | rfl | rfl | rfl | rfl | rfl | rfl | rfl
      · refine q_5 rfl ?_
        first | refine q_31E rfl (by decide) h6 ?_ | refine q_31 rfl (by decide) ?_
        refine q_24E (t := 80) (rfl) ?_
        refine q_3 rfl ?_
        first | refine q_neN0 (by omega) (fun hh => ?_) (fun hh => absurd hh (by omega)) | refine q_neI0 (fun hh => ?_) (fun hh => absurd (by omega) hh)
        refine q_1 ?_
        refine q_26 ?_
        exact kk
      · refine q_5 rfl ?_
        first | refine q_31E rfl (by decide) h6 ?_ | refine q_31 rfl (by decide) ?_
        refine q_24E (t := 90) (rfl) ?_
        refine q_3 rfl ?_
        refine q_0 ?_
        refine q_neN (by omega) (by omega) (fun hh => ?_) (fun hh => absurd hh (by omega))
        refine q_1 ?_
        refine q_26 ?_
        exact kk
      · refine q_5 rfl ?_
        first | refine q_31E rfl (by decide) h6 ?_ | refine q_31 rfl (by decide) ?_
        refine q_24E (t := 148) (rfl) ?_
        refine q_3 rfl ?_
        refine q_0 ?_
        refine q_neN (by omega) (by omega) (fun hh => ?_) (fun hh => absurd hh (by omega))
        refine q_1 ?_
        refine q_26 ?_
        exact kk
      · refine q_5 rfl ?_
        first | refine q_31E rfl (by decide) h6 ?_ | refine q_31 rfl (by decide) ?_
        refine q_24E (t := 124) (rfl) ?_
        refine q_3 rfl ?_
        refine q_0 ?_
        refine q_neN (by omega) (by omega) (fun hh => absurd hh (by omega)) (fun hh => ?_)
        refine q_0 ?_
        refine q_23 ?_
        refine q_26 ?_
        exact kk
      · refine q_5 rfl ?_
        first | refine q_31E rfl (by decide) h6 ?_ | refine q_31 rfl (by decide) ?_
        refine q_24E (t := 136) (rfl) ?_
        refine q_3 rfl ?_
        refine q_0 ?_
        refine q_neN (by omega) (by omega) (fun hh => absurd hh (by omega)) (fun hh => ?_)
        refine q_0 ?_
        refine q_23 ?_
        refine q_26 ?_
        exact kk
      · refine q_5 rfl ?_
        first | refine q_31E rfl (by decide) h6 ?_ | refine q_31 rfl (by decide) ?_
        refine q_24E (t := 160) (rfl) ?_
        refine q_3 rfl ?_
        refine q_0 ?_
        refine q_neN (by omega) (by omega) (fun hh => ?_) (fun hh => absurd hh (by omega))
        refine q_1 ?_
        refine q_26 ?_
        exact kk
      · refine q_5 rfl ?_
        first | refine q_31E rfl (by decide) h6 ?_ | refine q_31 rfl (by decide) ?_
        refine q_24E (t := 101) (rfl) ?_
        refine q_3 rfl ?_
        refine q_0 ?_
        refine q_neN (by omega) (by omega) (fun hh => ?_) (fun hh => absurd hh (by omega))
        refine q_1 ?_
        refine q_26 ?_
        exact kk
      · refine q_5 rfl ?_
        first | refine q_31E rfl (by decide) h6 ?_ | refine q_31 rfl (by decide) ?_
        refine q_24E (t := 112) (rfl) ?_
        refine q_3 rfl ?_
        refine q_0 ?_
        refine q_neN (by omega) (by omega) (fun hh => ?_) (fun hh => absurd hh (by omega))
        refine q_1 ?_
        refine q_26 ?_
        exact kk
    · rcases oth with rfl | rfl | rfl | rfl | rfl | rfl | rfl | rfl
      · refine q_5 rfl ?_
        first | refine q_31E rfl (by decide) h6 ?_ | refine q_31 rfl (by decide) ?_
        refine q_24E (t := 80) (rfl) ?_
        refine q_3 rfl ?_
        first | refine q_neN0 (by omega) (fun hh => ?_) (fun hh => absurd hh (by omega)) | refine q_neI0 (fun hh => ?_) (fun hh => absurd (by omega) hh)
        refine q_1 ?_
        refine q_26 ?_
        exact kk
      · refine q_5 rfl ?_
        first | refine q_31E rfl (by decide) h6 ?_ | refine q_31 rfl (by decide) ?_
        refine q_24E (t := 90) (rfl) ?_
        refine q_3 rfl ?_
        refine q_0 ?_
        refine q_neN (by omega) (by omega) (fun hh => ?_) (fun hh => absurd hh (by omega))
        refine q_1 ?_
        refine q_26 ?_
        exact kk
      · refine q_5 rfl ?_
        first | refine q_31E rfl (by decide) h6 ?_ | refine q_31 rfl (by decide) ?_
        refine q_24E (t := 148) (rfl) ?_
        refine q_3 rfl ?_
        refine q_0 ?_
        refine q_neN (by omega) (by omega) (fun hh => absurd hh (by omega)) (fun hh => ?_)
        refine q_0 ?_
        refine q_23 ?_
        refine q_26 ?_
        exact kk
      · refine q_5 rfl ?_
        first | refine q_31E rfl (by decide) h6 ?_ | refine q_31 rfl (by decide) ?_
        refine q_24E (t := 124) (rfl) ?_
        refine q_3 rfl ?_
        refine q_0 ?_
        refine q_neN (by omega) (by omega) (fun hh => ?_) (fun hh => absurd hh (by omega))
        refine q_1 ?_
        refine q_26 ?_
        exact kk
      · refine q_5 rfl ?_
        first | refine q_31E rfl (by decide) h6 ?_ | refine q_31 rfl (by decide) ?_
        refine q_24E (t := 136) (rfl) ?_
        refine q_3 rfl ?_
        refine q_0 ?_
        refine q_neN (by omega) (by omega) (fun hh => ?_) (fun hh => absurd hh (by omega))
        refine q_1 ?_
        refine q_26 ?_
        exact kk
      · refine q_5 rfl ?_
        first | refine q_31E rfl (by decide) h6 ?_ | refine q_31 rfl (by decide) ?_
        refine q_24E (t := 160) (rfl) ?_
        refine q_3 rfl ?_
        refine q_0 ?_
        refine q_neN (by omega) (by omega) (fun hh => absurd hh (by omega)) (fun hh => ?_)
        refine q_0 ?_
        refine q_23 ?_
        refine q_26 ?_
        exact kk
      · refine q_5 rfl ?_
        first | refine q_31E rfl (by decide) h6 ?_ | refine q_31 rfl (by decide) ?_
        refine q_24E (t := 101) (rfl) ?_
        refine q_3 rfl ?_
        refine q_0 ?_
        refine q_neN (by omega) (by omega) (fun hh => ?_) (fun hh => absurd hh (by omega))
        refine q_1 ?_
        refine q_26 ?_
        exact kk
      · refine q_5 rfl ?_
        first | refine q_31E rfl (by decide) h6 ?_ | refine q_31 rfl (by decide) ?_
        refine q_24E (t := 112) (rfl) ?_
        refine q_3 rfl ?_
        refine q_0 ?_
        refine q_neN (by omega) (by omega) (fun hh => ?_) (fun hh => absurd hh (by omega))
        refine q_1 ?_
        refine q_26 ?_
        exact kk
  · have e : mj_sw (mj_swt 0) 172 (nI k) = 172 := sw_no (fun q hq e => by
      have hq' : q ∈ mj_sw0 := hq
      unfold mj_sw0 at hq'
      simp only [List.mem_cons, List.not_mem_nil, or_false] at hq'
      rcases hq' with rfl | rfl | rfl | rfl | rfl | rfl | rfl | rfl
      all_goals
        have := (nI_eq (by omega) (by omega)).mp e
        omega)
    have ej : jI l k = -(nI 1) := by
      have : jn l k = none := by
        unfold jn
        (repeat' split) <;> first | rfl | omega
      unfold jI
      rw [this]
    rw [ej] at kk
    refine q_5 rfl ?_
    first | refine q_31E rfl (by decide) h6 ?_ | refine q_31 rfl (by decide) ?_
    refine q_24E (t := 172) (e) ?_
    refine q_1 ?_
    refine q_26 ?_
    exact kk
/-- a step's second half -/
def pay (q : Nat × Nat) : Nat := if q.1 = 1 then q.2 else if q.1 = 2 then kv q.2 else 0
def stq (q : Nat × Nat) : Prop := kd q.1 ≤ 10 ∧ pay q < 10000
theorem enS_pay (q : Nat × Nat) : enS q = kd q.1 * 2 ^ 20 + pay q := rfl
theorem shl20 : ∀ a, a ≤ 10 → nI a <<< (nI 20 &&& 31) = nI (a * 2 ^ 20) := by decide +kernel
theorem or20 {a v : Nat} (ha : a ≤ 10) (hv : v < 10000) : nI (a * 2 ^ 20) ||| nI (v &&& 1048575) = nI (a * 2 ^ 20 + v) := by
  rw [nI_or]
  congr 1
  have h1 : v &&& 1048575 = v := by
    have := Nat.and_two_pow_sub_one_eq_mod v 20
    rw [show 2 ^ 20 - 1 = 1048575 from rfl] at this
    rw [this, Nat.mod_eq_of_lt (by omega)]
  have h2 := Nat.two_pow_add_eq_or_of_lt (i := 20) (b := v) (by omega) a
  rw [h1, Nat.mul_comm a, ← h2]
def SZa (R0 : RP) (I : mj_I) : Prop := I 25 1 = nI R0.length
def SZb (R0 : RP) (I : mj_I) : Prop := I 12 1 = nI R0.length ∧ ∀ i q, R0[i]? = some q → I 14 i = nI (enS q)
theorem c_61aF {s : Nat} {a v : Int32} (hP : PS 16 P) (hz : I 25 1 = nI s) (hs : s < 5000) (kk : ∀ I', Eqf (frm [27] [(25, 1)]) I I' → I' 25 1 = nI (s + 1) → Q (.inl none) (107, I', L, P)) : mj_ev (d + 1) 61 [.ref 25, .int a, .int v] (107, I, L, P) Q := by
  refine ⟨rfl, ?_⟩
  have l27 : mj_ln 27 = 0 := rfl
  have l14 : mj_ln 14 = 700 := rfl
  show mj_run (mj_ev d) k61 Q (k61 0) [some (.ref 25), some (.int a), some (.int v)] [] (107, I, L, P) 0 0
  refine q_5 rfl ?_
  first | refine q_31E rfl (by decide) hz ?_ | refine q_31 rfl (by decide) ?_
  refine q_5 rfl ?_
  refine q_33 rfl (by decide) (hP _ _ _ rfl) ?_
  refine q_46 (by decide) (by decide) (by decide) ?_
  refine q_geN (by omega) (by omega) (fun hh => ?_) (fun hh => absurd hh (by omega))
  refine q_5 rfl ?_
  refine q_18 rfl ?_
  first | refine q_31E rfl (by decide) hz ?_ | refine q_31 rfl (by decide) ?_
  refine q_0 ?_
  first | refine q_add ?_ | refine q_11 rfl ?_
  refine q_34 rfl (by decide) ?_
  refine q_25 ?_
  exact kk _ (Eqf.rf.up rfl) upI_s
theorem c_61a {R0 : RP} {q : Nat × Nat} (hq : stq q) (hl : R0.length < 700) (hP : PS 16 P) (hz : SZa R0 I) (kk : ∀ I', Eqf (frm [27] [(25, 1)]) I I' → SZa (R0 ++ [q]) I' → Q (.inl none) (107, I', L, P)) : mj_ev (d + 1) 61 [.ref 25, .int (nI (kd q.1)), .int (nI (pay q))] (107, I, L, P) Q := c_61aF hP hz (by omega) (fun I' e h => kk I' e (by unfold SZa; rw [List.length_append]; exact h))
theorem c_61bF {s : Nat} {a v : Int32} (hP : PS 3 P) (hz : I 12 1 = nI s) (hs : s < 5000) (kk : ∀ I', Eqf (frm [14] [(12, 1)]) I I' → I' 12 1 = nI (s + 1) → Q (.inl none) (107, I', L, P)) : mj_ev (d + 1) 61 [.ref 12, .int a, .int v] (107, I, L, P) Q := by
  refine ⟨rfl, ?_⟩
  have l27 : mj_ln 27 = 0 := rfl
  have l14 : mj_ln 14 = 700 := rfl
  show mj_run (mj_ev d) k61 Q (k61 0) [some (.ref 12), some (.int a), some (.int v)] [] (107, I, L, P) 0 0
  by_cases c : s < 700
  · have hzb : ∀ x, mj_upI I 14 s x 12 1 = nI s := fun x => hz
    refine q_5 rfl ?_
    first | refine q_31E rfl (by decide) hz ?_ | refine q_31E rfl (by decide) (hzb _) ?_ | refine q_31 rfl (by decide) ?_
    refine q_5 rfl ?_
    refine q_33 rfl (by decide) (hP _ _ _ rfl) ?_
    refine q_46 (by decide) (by decide) (by decide) ?_
    refine q_geN (by omega) (by omega) (fun hh => absurd hh (by omega)) (fun hh => ?_)
    refine q_5 rfl ?_
    refine q_33 rfl (by decide) (hP _ _ _ rfl) ?_
    refine q_5 rfl ?_
    first | refine q_31E rfl (by decide) hz ?_ | refine q_31E rfl (by decide) (hzb _) ?_ | refine q_31 rfl (by decide) ?_
    refine q_3 rfl ?_
    refine q_0 ?_
    refine q_11 rfl ?_
    refine q_3 rfl ?_
    refine q_0 ?_
    refine q_11 rfl ?_
    refine q_11 rfl ?_
    refine q_42 _ rfl (by decide) rfl (by show _ < 700; omega) (by decide) ?_
    refine q_5 rfl ?_
    refine q_18 rfl ?_
    first | refine q_31E rfl (by decide) hz ?_ | refine q_31E rfl (by decide) (hzb _) ?_ | refine q_31 rfl (by decide) ?_
    refine q_0 ?_
    first | refine q_add ?_ | refine q_11 rfl ?_
    refine q_34 rfl (by decide) ?_
    refine q_25 ?_
    exact kk _ ((Eqf.rf.up rfl).up rfl) upI_s
  · refine q_5 rfl ?_
    first | refine q_31E rfl (by decide) hz ?_ | refine q_31 rfl (by decide) ?_
    refine q_5 rfl ?_
    refine q_33 rfl (by decide) (hP _ _ _ rfl) ?_
    refine q_46 (by decide) (by decide) (by decide) ?_
    refine q_geN (by omega) (by omega) (fun hh => ?_) (fun hh => absurd hh (by omega))
    refine q_5 rfl ?_
    refine q_18 rfl ?_
    first | refine q_31E rfl (by decide) hz ?_ | refine q_31 rfl (by decide) ?_
    refine q_0 ?_
    first | refine q_add ?_ | refine q_11 rfl ?_
    refine q_34 rfl (by decide) ?_
    refine q_25 ?_
    exact kk _ (Eqf.rf.up rfl) upI_s
theorem c_61b {R0 : RP} {q : Nat × Nat} (hq : stq q) (hl : R0.length < 700) (hP : PS 3 P) (hz : SZb R0 I) (kk : ∀ I', Eqf (frm [14] [(12, 1)]) I I' → SZb (R0 ++ [q]) I' → Q (.inl none) (107, I', L, P)) : mj_ev (d + 1) 61 [.ref 12, .int (nI (kd q.1)), .int (nI (pay q))] (107, I, L, P) Q := by
  refine ⟨rfl, ?_⟩
  have l27 : mj_ln 27 = 0 := rfl
  have l14 : mj_ln 14 = 700 := rfl
  obtain ⟨z1, z2⟩ := hz
  have e1 := shl20 (kd q.1) hq.1
  have e2 := or20 (a := kd q.1) (v := pay q) hq.1 hq.2
  have z1b : mj_upI I 14 R0.length (nI (kd q.1 * 2 ^ 20 + pay q)) 12 1 = nI R0.length := z1
  show mj_run (mj_ev d) k61 Q (k61 0) [some (.ref 12), some (.int (nI (kd q.1))), some (.int (nI (pay q)))] [] (107, I, L, P) 0 0
  refine q_5 rfl ?_
  first | refine q_31E rfl (by decide) z1 ?_ | refine q_31E rfl (by decide) z1b ?_ | refine q_31 rfl (by decide) ?_
  refine q_5 rfl ?_
  refine q_33 rfl (by decide) (hP _ _ _ rfl) ?_
  refine q_46 (by decide) (by decide) (by decide) ?_
  refine q_geN (by omega) (by omega) (fun hh => absurd hh (by omega)) (fun hh => ?_)
  refine q_5 rfl ?_
  refine q_33 rfl (by decide) (hP _ _ _ rfl) ?_
  refine q_5 rfl ?_
  first | refine q_31E rfl (by decide) z1 ?_ | refine q_31E rfl (by decide) z1b ?_ | refine q_31 rfl (by decide) ?_
  refine q_3 rfl ?_
  refine q_0 ?_
  refine q_11 rfl ?_
  rw [e1]
  refine q_3 rfl ?_
  refine q_0 ?_
  first | refine q_andN ?_ | refine q_11 rfl ?_
  refine q_11 rfl ?_
  rw [e2]
  refine q_42 _ rfl (by decide) rfl (by show _ < 700; omega) (by decide) ?_
  refine q_5 rfl ?_
  refine q_18 rfl ?_
  first | refine q_31E rfl (by decide) z1 ?_ | refine q_31E rfl (by decide) z1b ?_ | refine q_31 rfl (by decide) ?_
  refine q_0 ?_
  first | refine q_add ?_ | refine q_11 rfl ?_
  refine q_34 rfl (by decide) ?_
  refine q_25 ?_
  refine kk _ ((Eqf.rf.up rfl).up rfl) ⟨by rw [List.length_append]; exact upI_s, fun i p hp => ?_⟩
  rw [upI_c (by decide), upI_f]
  by_cases c : i = R0.length
  · rw [if_pos c]
    rw [c, List.getElem?_append_right (Nat.le_refl _), Nat.sub_self] at hp
    cases hp
    rfl
  · rw [if_neg c]
    have hi := (List.getElem?_eq_some_iff.mp hp).1
    rw [List.length_append] at hi
    have hi2 : i < R0.length + 1 := hi
    rw [List.getElem?_append_left (by omega)] at hp
    exact z2 i p hp
end C
/-- which VALUES a rule's steps read -/
def av1 (M : Nat) (q : Nat × Nat) : Nat := if q.1 = 2 then M ||| 2 ^ kv q.2 else M
def av (R : RP) : Nat := R.foldl av1 0
def avO : Option RP → Nat
  | none => 0
  | some R => av R
