/-! the class's tokens: numbers, a step -/
section C
variable {I : mj_I} {L : mj_L} {P : mj_P} {Q : mj_Q} {d n r t j s : Nat} {b : Nat → Nat}
set_option maxHeartbeats 1000000 in
theorem c_41 (hP : PS t P) (hB : RB b n I) (hs : s < n) (h4 : I 29 4 = nI s) (k : ∀ I', Eqf (frm [] [(29, 4), (29, 6), (29, 7), (29, 8)]) I I' → I' 29 4 = nI (dnd b n s) → I' 29 6 = nI 20 → I' 29 7 = nI (dgv b s (min4 (dnd b n s - s))) → I' 29 8 = nI (dnd b n s - s) → Q (.inl none) (107, I', L, P)) : mj_ev (d + 1) 41 [.ref 29] (107, I, L, P) Q := by
  refine ⟨rfl, ?_⟩
  have hn7 := hB.2.1
  obtain ⟨e1, e2, e3, e4⟩ := upTo_spec (q := fun i => isD (b i)) (Nat.le_of_lt hs)
  have eW : upTo (fun i => isD (b i)) n s = dnd b n s := rfl
  rw [eW] at e1 e2 e3 e4
  generalize dnd b n s = e at *
  have fB : ∀ {I' : mj_I}, Eqf (frm [] [(29, 4), (29, 6), (29, 7), (29, 8)]) I I' → RB b n I' := fun E => hB.fr (fun q => E 1 q rfl) (E 29 3 rfl)
  have digs : ∀ i, i ≤ e → s ≤ i → ∀ I', Eqf (frm [] [(29, 4), (29, 6), (29, 7), (29, 8)]) I I' → I' 29 4 = nI i → I' 29 6 = nI 20 → I' 29 7 = nI (dgv b s (min4 (i - s))) → I' 29 8 = nI (i - s) → mj_run (mj_ev d) k41 Q (k41 16) [some (.ref 29)] [] (107, I', L, P) 0 0 := by
    refine loop_up ?_ (fun i hi ih => ?_)
    · intro _ I' E g4 g6 g7 g8
      have h3 := (fB E).2.2
      by_cases c : e = n
      · refine q_5 rfl ?_
        first | refine q_31E rfl (by decide) g4 ?_ | refine q_31 rfl (by decide) ?_
        refine q_5 rfl ?_
        first | refine q_31E rfl (by decide) h3 ?_ | refine q_31 rfl (by decide) ?_
        refine q_geN (by omega) (by omega) (fun hh => ?_) (fun hh => absurd hh (by omega))
        refine q_25 ?_
        exact k I' E g4 g6 g7 g8
      · have nl : isD (b e) = false := e4 (by omega)
        have be := (fB E).1 e (by omega)
        by_cases c8 : 128 ≤ b e
        · have h1 := be.1
          have lt := sbt_48 (b e) be.2 c8
          refine q_5 rfl ?_
          first | refine q_31E rfl (by decide) g4 ?_ | refine q_31 rfl (by decide) ?_
          refine q_5 rfl ?_
          first | refine q_31E rfl (by decide) h3 ?_ | refine q_31 rfl (by decide) ?_
          refine q_geN (by omega) (by omega) (fun hh => absurd hh (by omega)) (fun hh => ?_)
          refine q_5 rfl ?_
          refine q_33 rfl (by decide) (hP _ _ _ rfl) ?_
          refine q_5 rfl ?_
          first | refine q_31E rfl (by decide) g4 ?_ | refine q_31 rfl (by decide) ?_
          first | refine q_40E _ rfl (by decide) rfl (by show _ < 700; omega) (by decide) (h1) ?_ | refine q_40 _ rfl (by decide) rfl (by show _ < 700; omega) (by decide) ?_
          refine q_0 ?_
          refine q_ltI (fun _ => ?_) (fun z => absurd lt z)
          refine q_25 ?_
          exact k I' E g4 g6 g7 g8
        · have h1 : I' 1 e = nI (b e) := be.1.trans (sbt_in (by omega))
          by_cases c9 : b e < 48
          · refine q_5 rfl ?_
            first | refine q_31E rfl (by decide) g4 ?_ | refine q_31 rfl (by decide) ?_
            refine q_5 rfl ?_
            first | refine q_31E rfl (by decide) h3 ?_ | refine q_31 rfl (by decide) ?_
            refine q_geN (by omega) (by omega) (fun hh => absurd hh (by omega)) (fun hh => ?_)
            refine q_5 rfl ?_
            refine q_33 rfl (by decide) (hP _ _ _ rfl) ?_
            refine q_5 rfl ?_
            first | refine q_31E rfl (by decide) g4 ?_ | refine q_31 rfl (by decide) ?_
            first | refine q_40E _ rfl (by decide) rfl (by show _ < 700; omega) (by decide) (h1) ?_ | refine q_40 _ rfl (by decide) rfl (by show _ < 700; omega) (by decide) ?_
            refine q_0 ?_
            refine q_ltN (by omega) (by omega) (fun hh => ?_) (fun hh => absurd hh (by omega))
            refine q_25 ?_
            exact k I' E g4 g6 g7 g8
          · have c10 : 57 < b e := by
              apply Nat.lt_of_not_le
              intro q
              rw [isD_iff.mpr ⟨by omega, q⟩] at nl
              cases nl
            refine q_5 rfl ?_
            first | refine q_31E rfl (by decide) g4 ?_ | refine q_31 rfl (by decide) ?_
            refine q_5 rfl ?_
            first | refine q_31E rfl (by decide) h3 ?_ | refine q_31 rfl (by decide) ?_
            refine q_geN (by omega) (by omega) (fun hh => absurd hh (by omega)) (fun hh => ?_)
            refine q_5 rfl ?_
            refine q_33 rfl (by decide) (hP _ _ _ rfl) ?_
            refine q_5 rfl ?_
            first | refine q_31E rfl (by decide) g4 ?_ | refine q_31 rfl (by decide) ?_
            first | refine q_40E _ rfl (by decide) rfl (by show _ < 700; omega) (by decide) (h1) ?_ | refine q_40 _ rfl (by decide) rfl (by show _ < 700; omega) (by decide) ?_
            refine q_0 ?_
            refine q_ltN (by omega) (by omega) (fun hh => absurd hh (by omega)) (fun hh => ?_)
            refine q_5 rfl ?_
            refine q_33 rfl (by decide) (hP _ _ _ rfl) ?_
            refine q_5 rfl ?_
            first | refine q_31E rfl (by decide) g4 ?_ | refine q_31 rfl (by decide) ?_
            first | refine q_40E _ rfl (by decide) rfl (by show _ < 700; omega) (by decide) (h1) ?_ | refine q_40 _ rfl (by decide) rfl (by show _ < 700; omega) (by decide) ?_
            refine q_0 ?_
            refine q_gtN (by omega) (by omega) (fun hh => ?_) (fun hh => absurd hh (by omega))
            refine q_25 ?_
            exact k I' E g4 g6 g7 g8
    · intro hsi I' E g4 g6 g7 g8
      have h3 := (fB E).2.2
      have li := isD_iff.mp (e3 i hsi hi)
      have h1 : I' 1 i = nI (b i) := ((fB E).1 i (by omega)).1.trans (sbt_in (by omega))
      have h1b : mj_upI I' 29 8 (nI (i - s + 1)) 1 i = nI (b i) := h1
      have h8b : mj_upI I' 29 8 (nI (i - s + 1)) 29 8 = nI (i - s + 1) := upI_s
      have h7b : mj_upI I' 29 8 (nI (i - s + 1)) 29 7 = nI (dgv b s (min4 (i - s))) := g7
      have h4b : mj_upI I' 29 8 (nI (i - s + 1)) 29 4 = nI i := g4
      have m40 : dgv b s (min4 (i - s)) < 10000 := by
        have h1 : min4 (i - s) ≤ 4 := by unfold min4; split <;> omega
        have h2 := dgv_lt (b := b) (s := s) (k := min4 (i - s)) (fun q hq => by
          have h3 : min4 (i - s) ≤ i - s := by unfold min4; split <;> omega
          exact (isD_iff.mp (e3 (s + q) (by omega) (by omega))).2)
        exact Nat.lt_of_lt_of_le h2 (Nat.le_trans (Nat.pow_le_pow_right (by decide) h1) (by decide))
      have ej : i - s + 1 = i + 1 - s := by omega
      by_cases h7 : i - s < 4
      · have e5 : 10 * dgv b s (min4 (i - s)) + b i - 48 = dgv b s (min4 (i + 1 - s)) := by
          have q1 : min4 (i - s) = i - s := if_pos h7
          have q2 : min4 (i + 1 - s) = (i - s) + 1 := by unfold min4; split <;> omega
          rw [q1, q2]
          show _ = 10 * dgv b s (i - s) + (b (s + (i - s)) - 48)
          rw [show s + (i - s) = i by omega]
          omega
        have h4c : mj_upI (mj_upI I' 29 8 (nI (i - s + 1))) 29 7 (nI (10 * dgv b s (min4 (i - s)) + b i - 48)) 29 4 = nI i := g4
        refine q_5 rfl ?_
        first | refine q_31E rfl (by decide) g4 ?_ | refine q_31E rfl (by decide) h4b ?_ | refine q_31E rfl (by decide) h4c ?_ | refine q_31 rfl (by decide) ?_
        refine q_5 rfl ?_
        first | refine q_31E rfl (by decide) h3 ?_ | refine q_31 rfl (by decide) ?_
        refine q_geN (by omega) (by omega) (fun hh => absurd hh (by omega)) (fun hh => ?_)
        refine q_5 rfl ?_
        refine q_33 rfl (by decide) (hP _ _ _ rfl) ?_
        refine q_5 rfl ?_
        first | refine q_31E rfl (by decide) g4 ?_ | refine q_31E rfl (by decide) h4b ?_ | refine q_31E rfl (by decide) h4c ?_ | refine q_31 rfl (by decide) ?_
        first | refine q_40E _ rfl (by decide) rfl (by show _ < 700; omega) (by decide) (h1) ?_ | refine q_40E _ rfl (by decide) rfl (by show _ < 700; omega) (by decide) (h1b) ?_ | refine q_40 _ rfl (by decide) rfl (by show _ < 700; omega) (by decide) ?_
        refine q_0 ?_
        refine q_ltN (by omega) (by omega) (fun hh => absurd hh (by omega)) (fun hh => ?_)
        refine q_5 rfl ?_
        refine q_33 rfl (by decide) (hP _ _ _ rfl) ?_
        refine q_5 rfl ?_
        first | refine q_31E rfl (by decide) g4 ?_ | refine q_31E rfl (by decide) h4b ?_ | refine q_31E rfl (by decide) h4c ?_ | refine q_31 rfl (by decide) ?_
        first | refine q_40E _ rfl (by decide) rfl (by show _ < 700; omega) (by decide) (h1) ?_ | refine q_40E _ rfl (by decide) rfl (by show _ < 700; omega) (by decide) (h1b) ?_ | refine q_40 _ rfl (by decide) rfl (by show _ < 700; omega) (by decide) ?_
        refine q_0 ?_
        refine q_gtN (by omega) (by omega) (fun hh => absurd hh (by omega)) (fun hh => ?_)
        refine q_5 rfl ?_
        refine q_18 rfl ?_
        first | refine q_31E rfl (by decide) g8 ?_ | refine q_31E rfl (by decide) h8b ?_ | refine q_31 rfl (by decide) ?_
        refine q_0 ?_
        first | refine q_add ?_ | refine q_11 rfl ?_
        refine q_34 rfl (by decide) ?_
        refine q_5 rfl ?_
        first | refine q_31E rfl (by decide) g8 ?_ | refine q_31E rfl (by decide) h8b ?_ | refine q_31 rfl (by decide) ?_
        refine q_0 ?_
        refine q_gtN (by omega) (by omega) (fun hh => absurd hh (by omega)) (fun hh => ?_)
        refine q_5 rfl ?_
        refine q_0 ?_
        refine q_5 rfl ?_
        first | refine q_31E rfl (by decide) h7b ?_ | refine q_31 rfl (by decide) ?_
        first | refine q_mul ?_ | refine q_11 rfl ?_
        refine q_5 rfl ?_
        refine q_33 rfl (by decide) (hP _ _ _ rfl) ?_
        refine q_5 rfl ?_
        first | refine q_31E rfl (by decide) g4 ?_ | refine q_31E rfl (by decide) h4b ?_ | refine q_31E rfl (by decide) h4c ?_ | refine q_31 rfl (by decide) ?_
        first | refine q_40E _ rfl (by decide) rfl (by show _ < 700; omega) (by decide) (h1) ?_ | refine q_40E _ rfl (by decide) rfl (by show _ < 700; omega) (by decide) (h1b) ?_ | refine q_40 _ rfl (by decide) rfl (by show _ < 700; omega) (by decide) ?_
        first | refine q_add ?_ | refine q_11 rfl ?_
        refine q_0 ?_
        first | refine q_sub (by omega) ?_ | refine q_11 rfl ?_
        refine q_34 rfl (by decide) ?_
        refine q_5 rfl ?_
        refine q_18 rfl ?_
        first | refine q_31E rfl (by decide) g4 ?_ | refine q_31E rfl (by decide) h4b ?_ | refine q_31E rfl (by decide) h4c ?_ | refine q_31 rfl (by decide) ?_
        refine q_0 ?_
        first | refine q_add ?_ | refine q_11 rfl ?_
        refine q_34 rfl (by decide) ?_
        refine q_23 ?_
        exact ih (by omega) _ (((E.up rfl).up rfl).up rfl) upI_s (by rw [upI_j (by decide), upI_j (by decide), upI_j (by decide)]; exact g6) (by rw [upI_j (by decide), upI_s, e5]) (by rw [upI_j (by decide), upI_j (by decide), upI_s, ej])
      · have q2 : min4 (i + 1 - s) = min4 (i - s) := by unfold min4; rw [if_neg (by omega), if_neg (by omega)]
        refine q_5 rfl ?_
        first | refine q_31E rfl (by decide) g4 ?_ | refine q_31E rfl (by decide) h4b ?_ | refine q_31 rfl (by decide) ?_
        refine q_5 rfl ?_
        first | refine q_31E rfl (by decide) h3 ?_ | refine q_31 rfl (by decide) ?_
        refine q_geN (by omega) (by omega) (fun hh => absurd hh (by omega)) (fun hh => ?_)
        refine q_5 rfl ?_
        refine q_33 rfl (by decide) (hP _ _ _ rfl) ?_
        refine q_5 rfl ?_
        first | refine q_31E rfl (by decide) g4 ?_ | refine q_31E rfl (by decide) h4b ?_ | refine q_31 rfl (by decide) ?_
        first | refine q_40E _ rfl (by decide) rfl (by show _ < 700; omega) (by decide) (h1) ?_ | refine q_40 _ rfl (by decide) rfl (by show _ < 700; omega) (by decide) ?_
        refine q_0 ?_
        refine q_ltN (by omega) (by omega) (fun hh => absurd hh (by omega)) (fun hh => ?_)
        refine q_5 rfl ?_
        refine q_33 rfl (by decide) (hP _ _ _ rfl) ?_
        refine q_5 rfl ?_
        first | refine q_31E rfl (by decide) g4 ?_ | refine q_31E rfl (by decide) h4b ?_ | refine q_31 rfl (by decide) ?_
        first | refine q_40E _ rfl (by decide) rfl (by show _ < 700; omega) (by decide) (h1) ?_ | refine q_40 _ rfl (by decide) rfl (by show _ < 700; omega) (by decide) ?_
        refine q_0 ?_
        refine q_gtN (by omega) (by omega) (fun hh => absurd hh (by omega)) (fun hh => ?_)
        refine q_5 rfl ?_
        refine q_18 rfl ?_
        first | refine q_31E rfl (by decide) g8 ?_ | refine q_31E rfl (by decide) h8b ?_ | refine q_31 rfl (by decide) ?_
        refine q_0 ?_
        first | refine q_add ?_ | refine q_11 rfl ?_
        refine q_34 rfl (by decide) ?_
        refine q_5 rfl ?_
        first | refine q_31E rfl (by decide) g8 ?_ | refine q_31E rfl (by decide) h8b ?_ | refine q_31 rfl (by decide) ?_
        refine q_0 ?_
        refine q_gtN (by omega) (by omega) (fun hh => ?_) (fun hh => absurd hh (by omega))
        refine q_5 rfl ?_
        refine q_18 rfl ?_
        first | refine q_31E rfl (by decide) g4 ?_ | refine q_31E rfl (by decide) h4b ?_ | refine q_31 rfl (by decide) ?_
        refine q_0 ?_
        first | refine q_add ?_ | refine q_11 rfl ?_
        refine q_34 rfl (by decide) ?_
        refine q_23 ?_
        exact ih (by omega) _ ((E.up rfl).up rfl) upI_s (by rw [upI_j (by decide), upI_j (by decide)]; exact g6) (by rw [upI_j (by decide), upI_j (by decide), q2]; exact g7) (by rw [upI_j (by decide), upI_s, ej])
  show mj_run (mj_ev d) k41 Q (k41 0) [some (.ref 29)] [] (107, I, L, P) 0 0
  refine q_5 rfl ?_
  refine q_0 ?_
  refine q_34 rfl (by decide) ?_
  refine q_5 rfl ?_
  refine q_0 ?_
  refine q_34 rfl (by decide) ?_
  refine q_5 rfl ?_
  refine q_0 ?_
  refine q_34 rfl (by decide) ?_
  exact digs s e1 (Nat.le_refl _) _ (((Eqf.rf.up rfl).up rfl).up rfl) (by rw [upI_j (by decide), upI_j (by decide), upI_j (by decide)]; exact h4) (by rw [upI_j (by decide), upI_j (by decide), upI_s]) (by rw [upI_j (by decide), upI_s, Nat.sub_self]; rfl) (by rw [upI_s, Nat.sub_self])
theorem c_38G {c : Int32} {p : Int32} (h9 : I 29 9 = nI 0) (h5 : I 29 5 = p) (k : Q (.inl none) (107, mj_upI (mj_upI (mj_upI I 29 9 c) 29 0 p) 29 6 (nI 23), L, P)) : mj_ev (d + 1) 38 [.ref 29, .int c] (107, I, L, P) Q := by
  refine ⟨rfl, ?_⟩
  have h5b : mj_upI I 29 9 c 29 5 = p := h5
  show mj_run (mj_ev d) k38 Q (k38 0) [some (.ref 29), some (.int c)] [] (107, I, L, P) 0 0
  refine q_5 rfl ?_
  first | refine q_31E rfl (by decide) h9 ?_ | refine q_31 rfl (by decide) ?_
  first | refine q_neN0 (by omega) (fun hh => absurd hh (by omega)) (fun hh => ?_) | refine q_neI0 (fun hh => absurd hh (by omega)) (fun hh => ?_)
  refine q_5 rfl ?_
  refine q_3 rfl ?_
  refine q_34 rfl (by decide) ?_
  refine q_5 rfl ?_
  refine q_5 rfl ?_
  first | refine q_31E rfl (by decide) h5b ?_ | refine q_31 rfl (by decide) ?_
  refine q_34 rfl (by decide) ?_
  refine q_5 rfl ?_
  refine q_0 ?_
  refine q_34 rfl (by decide) ?_
  refine q_25 ?_
  exact k
theorem c_38B {c : Int32} {f : Nat} (h9 : I 29 9 = nI f) (hf : 0 < f) (hf9 : f < 10) (k : Q (.inl none) (107, mj_upI I 29 6 (nI 23), L, P)) : mj_ev (d + 1) 38 [.ref 29, .int c] (107, I, L, P) Q := by
  refine ⟨rfl, ?_⟩
  show mj_run (mj_ev d) k38 Q (k38 0) [some (.ref 29), some (.int c)] [] (107, I, L, P) 0 0
  refine q_5 rfl ?_
  first | refine q_31E rfl (by decide) h9 ?_ | refine q_31 rfl (by decide) ?_
  first | refine q_neN0 (by omega) (fun hh => ?_) (fun hh => absurd hh (by omega)) | refine q_neI0 (fun hh => ?_) (fun hh => absurd (by omega) hh)
  refine q_5 rfl ?_
  refine q_0 ?_
  refine q_34 rfl (by decide) ?_
  refine q_25 ?_
  exact k
theorem c_39B {f : Nat} (h9 : I 29 9 = nI f) (hf : 0 < f) (hf9 : f < 10) (k : Q (.inl none) (107, mj_upI I 29 6 (nI 23), L, P)) : mj_ev (d + 1) 39 [.ref 29] (107, I, L, P) Q := by
  refine ⟨rfl, ?_⟩
  show mj_run (mj_ev d) k39 Q (k39 0) [some (.ref 29)] [] (107, I, L, P) 0 0
  refine q_5 rfl ?_
  first | refine q_31E rfl (by decide) h9 ?_ | refine q_31 rfl (by decide) ?_
  first | refine q_eqN0 (by omega) (fun hh => absurd hh (by omega)) (fun hh => ?_) | refine q_eqI0 (fun hh => absurd hh (by omega)) (fun hh => ?_)
  refine q_5 rfl ?_
  refine q_0 ?_
  refine q_34 rfl (by decide) ?_
  refine q_25 ?_
  exact k
set_option maxHeartbeats 1000000 in
theorem c_39 (hP : PS t P) (hB : RB b n I) (h9 : I 29 9 = nI 0) (h4 : I 29 4 = nI (tkp b n j)) (k : ∀ I', Eqf (frm [] tcF) I I' → TR b n j I' → Q (.inl none) (107, I', L, P)) : mj_ev (d + 6) 39 [.ref 29] (107, I, L, P) Q := by
  refine ⟨rfl, ?_⟩
  have hn7 := hB.2.1
  have tp := tkp_le (b := b) (n := n) j
  obtain ⟨w1, w2, w3, w4⟩ := upTo_spec (q := fun i => isWs (b i)) tp
  have eB : upTo (fun i => isWs (b i)) n (tkp b n j) = tB b n j := rfl
  rw [eB] at w1 w2 w3 w4
  generalize hs : tB b n j = s at w1 w2 w3 w4
  have fB : ∀ {I' : mj_I}, Eqf (frm [] tcF) I I' → RB b n I' := fun e => hB.fr (fun i => e 1 i rfl) (e 29 3 rfl)
  have hsE : (tK b n j = knd1 b n s) := by unfold tK; rw [hs]
  have hsN : tkp b n (j + 1) = nx1 b n s := by rw [tkp_s, hs]
  have fin : ∀ I' e, s ≤ e → Eqf (frm [] tcF) I I' → I' 29 4 = nI e → I' 29 5 = nI s → I' 29 6 = nI (knd1 b n s) → nx1 b n s = e → (knd1 b n s = 20 → I' 29 7 = nI (dgv b s (min4 (e - s))) ∧ I' 29 8 = nI (e - s)) → Q (.inl none) (107, I', L, P) := by
    intro I' e hse E g4 g5 g6 gN g7
    have hD : tD b n j = e - s := by unfold tD; rw [hsN, gN, hs]
    refine k I' E ⟨?_, ?_, ?_, fun q => ?_⟩
    · rw [hsN, gN]; exact g4
    · rw [hs]; exact g5
    · rw [hsE]; exact g6
    · unfold tV
      rw [hs, hD]
      exact g7 (by rw [← hsE]; exact q)
  -- at the token
  have main : ∀ I', Eqf (frm [] tcF) I I' → I' 29 4 = nI s → mj_run (mj_ev (d + 5)) k39 Q (k39 66) [some (.ref 29)] [] (107, I', L, P) 0 0 := by
    intro I' E g4
    have hB' := fB E
    have h3 : mj_upI I' 29 5 (nI s) 29 3 = nI n := hB'.2.2
    have g4b : mj_upI I' 29 5 (nI s) 29 4 = nI s := g4
    have E5 : Eqf (frm [] tcF) I (mj_upI I' 29 5 (nI s)) := E.up rfl
    by_cases c : n ≤ s
    · have kk : knd1 b n s = 21 := if_pos c
      refine q_5 rfl ?_
      refine q_5 rfl ?_
      first | refine q_31E rfl (by decide) g4 ?_ | refine q_31E rfl (by decide) g4b ?_ | refine q_31 rfl (by decide) ?_
      refine q_34 rfl (by decide) ?_
      refine q_5 rfl ?_
      first | refine q_31E rfl (by decide) g4 ?_ | refine q_31E rfl (by decide) g4b ?_ | refine q_31 rfl (by decide) ?_
      refine q_5 rfl ?_
      first | refine q_31E rfl (by decide) h3 ?_ | refine q_31 rfl (by decide) ?_
      refine q_ltN (by omega) (by omega) (fun hh => absurd hh (by omega)) (fun hh => ?_)
      refine q_5 rfl ?_
      refine q_0 ?_
      refine q_34 rfl (by decide) ?_
      refine q_23 ?_
      refine q_25 ?_
      exact fin _ s (Nat.le_refl _) (E5.up rfl) (by rw [upI_j (by decide)]; exact g4b) (by rw [upI_j (by decide)]; exact upI_s) (by rw [upI_s, kk]) (by unfold nx1; rw [if_pos c]; omega) (fun q => absurd q (by omega))
    · have bs := hB'.1 s (by omega)
      by_cases hl : isL (b s) = true
      · have l2 := isL_iff.mp hl
        have h1 : mj_upI I' 29 5 (nI s) 1 s = nI (b s) := bs.1.trans (sbt_in (by omega))
        have kk : knd1 b n s = kwd b s (wnd b n s - s) := by
          unfold knd1
          rw [if_neg c, if_pos hl]
        have k19 := kwd_le (b := b) (s := s) (l := wnd b n s - s)
        have sw := nx1_le (b := b) w2
        refine q_5 rfl ?_
        refine q_5 rfl ?_
        first | refine q_31E rfl (by decide) g4 ?_ | refine q_31E rfl (by decide) g4b ?_ | refine q_31 rfl (by decide) ?_
        refine q_34 rfl (by decide) ?_
        refine q_5 rfl ?_
        first | refine q_31E rfl (by decide) g4 ?_ | refine q_31E rfl (by decide) g4b ?_ | refine q_31 rfl (by decide) ?_
        refine q_5 rfl ?_
        first | refine q_31E rfl (by decide) h3 ?_ | refine q_31 rfl (by decide) ?_
        refine q_ltN (by omega) (by omega) (fun hh => ?_) (fun hh => absurd hh (by omega))
        refine q_5 rfl ?_
        refine q_33 rfl (by decide) (hP _ _ _ rfl) ?_
        refine q_5 rfl ?_
        first | refine q_31E rfl (by decide) g4 ?_ | refine q_31E rfl (by decide) g4b ?_ | refine q_31 rfl (by decide) ?_
        first | refine q_40E _ rfl (by decide) rfl (by show _ < 700; omega) (by decide) (h1) ?_ | refine q_40 _ rfl (by decide) rfl (by show _ < 700; omega) (by decide) ?_
        refine q_0 ?_
        refine q_ltN (by omega) (by omega) (fun hh => absurd hh (by omega)) (fun hh => ?_)
        refine q_5 rfl ?_
        refine q_33 rfl (by decide) (hP _ _ _ rfl) ?_
        refine q_5 rfl ?_
        first | refine q_31E rfl (by decide) g4 ?_ | refine q_31E rfl (by decide) g4b ?_ | refine q_31 rfl (by decide) ?_
        first | refine q_40E _ rfl (by decide) rfl (by show _ < 700; omega) (by decide) (h1) ?_ | refine q_40 _ rfl (by decide) rfl (by show _ < 700; omega) (by decide) ?_
        refine q_0 ?_
        refine q_gtN (by omega) (by omega) (fun hh => absurd hh (by omega)) (fun hh => ?_)
        refine q_5 rfl ?_
        refine q_47 (mj_ev_mono _) [] rfl rfl rfl (by decide) rfl rfl rfl ?_
        refine c_40 hP (fB E5) (by omega) g4b upI_s (fun I2 e2 f1 f2 => ?_)
        refine q_23 ?_
        refine q_25 ?_
        exact fin I2 (wnd b n s) (upTo_spec (q := fun i => isL (b i)) w2).1 (E5.tr (e2.to rfl rfl)) f1 ((e2 29 5 rfl).trans upI_s) (by rw [kk]; exact f2) (by unfold nx1; rw [if_neg c, if_pos hl]) (fun q => absurd q (by omega))
      · have hl' : isL (b s) = false := by
          cases e : isL (b s) with
          | true => exact absurd e hl
          | false => rfl
        -- no letter
        have s129 : mj_run (mj_ev (d + 5)) k39 Q (k39 129) [some (.ref 29)] [] (107, mj_upI I' 29 5 (nI s), L, P) 0 0 := by
          by_cases hd : isD (b s) = true
          · have l2 := isD_iff.mp hd
            have h1 : mj_upI I' 29 5 (nI s) 1 s = nI (b s) := bs.1.trans (sbt_in (by omega))
            have kk : knd1 b n s = 20 := by
              unfold knd1
              rw [if_neg c, if_neg hl, if_pos hd]
            refine q_5 rfl ?_
            refine q_33 rfl (by decide) (hP _ _ _ rfl) ?_
            refine q_5 rfl ?_
            first | refine q_31E rfl (by decide) g4b ?_ | refine q_31 rfl (by decide) ?_
            first | refine q_40E _ rfl (by decide) rfl (by show _ < 700; omega) (by decide) (h1) ?_ | refine q_40 _ rfl (by decide) rfl (by show _ < 700; omega) (by decide) ?_
            refine q_0 ?_
            refine q_ltN (by omega) (by omega) (fun hh => absurd hh (by omega)) (fun hh => ?_)
            refine q_5 rfl ?_
            refine q_33 rfl (by decide) (hP _ _ _ rfl) ?_
            refine q_5 rfl ?_
            first | refine q_31E rfl (by decide) g4b ?_ | refine q_31 rfl (by decide) ?_
            first | refine q_40E _ rfl (by decide) rfl (by show _ < 700; omega) (by decide) (h1) ?_ | refine q_40 _ rfl (by decide) rfl (by show _ < 700; omega) (by decide) ?_
            refine q_0 ?_
            refine q_gtN (by omega) (by omega) (fun hh => absurd hh (by omega)) (fun hh => ?_)
            refine q_5 rfl ?_
            refine q_47 (mj_ev_mono _) [] rfl rfl rfl (by decide) rfl rfl rfl ?_
            refine c_41 hP (fB E5) (by omega) g4b (fun I2 e2 f1 f2 f3 f4 => ?_)
            refine q_23 ?_
            refine q_25 ?_
            exact fin I2 (dnd b n s) (upTo_spec (q := fun i => isD (b i)) w2).1 (E5.tr (e2.to rfl rfl)) f1 ((e2 29 5 rfl).trans upI_s) (by rw [kk]; exact f2) (by unfold nx1; rw [if_neg c, if_neg hl, if_pos hd]) (fun _ => ⟨f3, f4⟩)
          · have nx : nx1 b n s = s + 1 := by
              unfold nx1
              rw [if_neg c, if_neg hl, if_neg hd]
            -- a sign or none
            have s209 : ∀ v, v = knd1 b n s → mj_run (mj_ev (d + 5)) k39 Q (k39 209) [some (.ref 29)] [.int (nI v), .ref 29] (107, mj_upI I' 29 5 (nI s), L, P) 0 0 := by
              intro v hv
              have v20 : v ≠ 20 := by
                rw [hv]
                unfold knd1
                rw [if_neg c, if_neg hl, if_neg hd]
                split
                · rename_i q
                  have := isSg_iff.mp q
                  omega
                · omega
              have g4c : mj_upI (mj_upI I' 29 5 (nI s)) 29 6 (nI v) 29 4 = nI s := g4
              refine q_34 rfl (by decide) ?_
              refine q_5 rfl ?_
              refine q_18 rfl ?_
              first | refine q_31E rfl (by decide) g4c ?_ | refine q_31 rfl (by decide) ?_
              refine q_0 ?_
              first | refine q_add ?_ | refine q_11 rfl ?_
              refine q_34 rfl (by decide) ?_
              refine q_25 ?_
              exact fin _ (s + 1) (by omega) ((E5.up rfl).up rfl) upI_s (by rw [upI_j (by decide), upI_j (by decide)]; exact upI_s) (by rw [upI_j (by decide), upI_s, hv]) nx (fun q => absurd q (by omega))
            have s207 : isSg (b s) = false → mj_run (mj_ev (d + 5)) k39 Q (k39 207) [some (.ref 29)] [.ref 29] (107, mj_upI I' 29 5 (nI s), L, P) 0 0 := by
              intro hg
              refine q_0 ?_
              exact s209 22 (by unfold knd1; rw [if_neg c, if_neg hl, if_neg hd, if_neg (by rw [hg]; decide)])
            have s164 : mj_run (mj_ev (d + 5)) k39 Q (k39 164) [some (.ref 29)] [] (107, mj_upI I' 29 5 (nI s), L, P) 0 0 := by
              by_cases c8 : 128 ≤ b s
              · have h1 := bs.1
                have h1b : mj_upI I' 29 5 (nI s) 1 s = sbt (b s) := h1
                have lt := sbt_0 (b s) bs.2 c8
                have ng : isSg (b s) = false := by
                  cases e : isSg (b s) with
                  | false => rfl
                  | true =>
                    have := isSg_iff.mp e
                    omega
                refine q_5 rfl ?_
                refine q_5 rfl ?_
                refine q_33 rfl (by decide) (hP _ _ _ rfl) ?_
                refine q_5 rfl ?_
                first | refine q_31E rfl (by decide) g4b ?_ | refine q_31 rfl (by decide) ?_
                first | refine q_40E _ rfl (by decide) rfl (by show _ < 700; omega) (by decide) (h1b) ?_ | refine q_40 _ rfl (by decide) rfl (by show _ < 700; omega) (by decide) ?_
                refine q_leI0 (fun _ => ?_) (fun z => absurd lt z)
                exact s207 ng
              · have h1 : mj_upI I' 29 5 (nI s) 1 s = nI (b s) := bs.1.trans (sbt_in (by omega))
                by_cases c0 : b s = 0
                · have ng : isSg (b s) = false := by rw [c0]; rfl
                  refine q_5 rfl ?_
                  refine q_5 rfl ?_
                  refine q_33 rfl (by decide) (hP _ _ _ rfl) ?_
                  refine q_5 rfl ?_
                  first | refine q_31E rfl (by decide) g4b ?_ | refine q_31 rfl (by decide) ?_
                  first | refine q_40E _ rfl (by decide) rfl (by show _ < 700; omega) (by decide) (h1) ?_ | refine q_40 _ rfl (by decide) rfl (by show _ < 700; omega) (by decide) ?_
                  first | refine q_leN0 (by omega) (fun hh => ?_) (fun hh => absurd hh (by omega)) | refine q_leI0 (fun hh => ?_) (fun hh => absurd (by omega) hh)
                  exact s207 ng
                · refine q_5 rfl ?_
                  refine q_5 rfl ?_
                  refine q_33 rfl (by decide) (hP _ _ _ rfl) ?_
                  refine q_5 rfl ?_
                  first | refine q_31E rfl (by decide) g4b ?_ | refine q_31 rfl (by decide) ?_
                  first | refine q_40E _ rfl (by decide) rfl (by show _ < 700; omega) (by decide) (h1) ?_ | refine q_40 _ rfl (by decide) rfl (by show _ < 700; omega) (by decide) ?_
                  first | refine q_leN0 (by omega) (fun hh => absurd hh (by omega)) (fun hh => ?_) | refine q_leI0 (fun hh => absurd hh (by omega)) (fun hh => ?_)
                  refine q_55 ?_
                  refine q_5 rfl ?_
                  refine q_33 rfl (by decide) (hP _ _ _ rfl) ?_
                  refine q_5 rfl ?_
                  first | refine q_31E rfl (by decide) g4b ?_ | refine q_31 rfl (by decide) ?_
                  first | refine q_40E _ rfl (by decide) rfl (by show _ < 700; omega) (by decide) (h1) ?_ | refine q_40 _ rfl (by decide) rfl (by show _ < 700; omega) (by decide) ?_
                  refine q_12 (un2 _ (by omega)) ?_
                  refine q_62 (mj_ev_mono _) [_] rfl (by omega) rfl rfl rfl rfl ?_
                  refine c_288 (by omega) (fun h i hi => ?_) (fun h => ?_)
                  skip
                  · first | refine q_ltN0 (by omega) ?_ | refine q_ltI0 (fun hh => absurd hh (by omega)) (fun hh => ?_)
                    refine q_5 rfl ?_
                    refine q_33 rfl (by decide) (hP _ _ _ rfl) ?_
                    refine q_5 rfl ?_
                    first | refine q_31E rfl (by decide) g4b ?_ | refine q_31 rfl (by decide) ?_
                    first | refine q_40E _ rfl (by decide) rfl (by show _ < 700; omega) (by decide) (h1) ?_ | refine q_40 _ rfl (by decide) rfl (by show _ < 700; omega) (by decide) ?_
                    refine q_23 ?_
                    exact s209 (b s) (by unfold knd1; rw [if_neg c, if_neg hl, if_neg hd, if_pos h])
                  · refine q_ltI0 (fun _ => ?_) (fun z => absurd (by decide) z)
                    exact s207 h
            by_cases c8 : 128 ≤ b s
            · have h1b : mj_upI I' 29 5 (nI s) 1 s = sbt (b s) := bs.1
              have lt := sbt_48 (b s) bs.2 c8
              refine q_5 rfl ?_
              refine q_33 rfl (by decide) (hP _ _ _ rfl) ?_
              refine q_5 rfl ?_
              first | refine q_31E rfl (by decide) g4b ?_ | refine q_31 rfl (by decide) ?_
              first | refine q_40E _ rfl (by decide) rfl (by show _ < 700; omega) (by decide) (h1b) ?_ | refine q_40 _ rfl (by decide) rfl (by show _ < 700; omega) (by decide) ?_
              refine q_0 ?_
              refine q_ltI (fun _ => ?_) (fun z => absurd lt z)
              exact s164
            · have h1 : mj_upI I' 29 5 (nI s) 1 s = nI (b s) := bs.1.trans (sbt_in (by omega))
              by_cases c9 : b s < 48
              · refine q_5 rfl ?_
                refine q_33 rfl (by decide) (hP _ _ _ rfl) ?_
                refine q_5 rfl ?_
                first | refine q_31E rfl (by decide) g4b ?_ | refine q_31 rfl (by decide) ?_
                first | refine q_40E _ rfl (by decide) rfl (by show _ < 700; omega) (by decide) (h1) ?_ | refine q_40 _ rfl (by decide) rfl (by show _ < 700; omega) (by decide) ?_
                refine q_0 ?_
                refine q_ltN (by omega) (by omega) (fun hh => ?_) (fun hh => absurd hh (by omega))
                exact s164
              · have c10 : 57 < b s := by
                  apply Nat.lt_of_not_le
                  intro q
                  exact hd (isD_iff.mpr ⟨by omega, q⟩)
                refine q_5 rfl ?_
                refine q_33 rfl (by decide) (hP _ _ _ rfl) ?_
                refine q_5 rfl ?_
                first | refine q_31E rfl (by decide) g4b ?_ | refine q_31 rfl (by decide) ?_
                first | refine q_40E _ rfl (by decide) rfl (by show _ < 700; omega) (by decide) (h1) ?_ | refine q_40 _ rfl (by decide) rfl (by show _ < 700; omega) (by decide) ?_
                refine q_0 ?_
                refine q_ltN (by omega) (by omega) (fun hh => absurd hh (by omega)) (fun hh => ?_)
                refine q_5 rfl ?_
                refine q_33 rfl (by decide) (hP _ _ _ rfl) ?_
                refine q_5 rfl ?_
                first | refine q_31E rfl (by decide) g4b ?_ | refine q_31 rfl (by decide) ?_
                first | refine q_40E _ rfl (by decide) rfl (by show _ < 700; omega) (by decide) (h1) ?_ | refine q_40 _ rfl (by decide) rfl (by show _ < 700; omega) (by decide) ?_
                refine q_0 ?_
                refine q_gtN (by omega) (by omega) (fun hh => ?_) (fun hh => absurd hh (by omega))
                exact s164
        by_cases c8 : 128 ≤ b s
        · have h1b : mj_upI I' 29 5 (nI s) 1 s = sbt (b s) := bs.1
          have lt := sbt_97 (b s) bs.2 c8
          refine q_5 rfl ?_
          refine q_5 rfl ?_
          first | refine q_31E rfl (by decide) g4 ?_ | refine q_31E rfl (by decide) g4b ?_ | refine q_31 rfl (by decide) ?_
          refine q_34 rfl (by decide) ?_
          refine q_5 rfl ?_
          first | refine q_31E rfl (by decide) g4 ?_ | refine q_31E rfl (by decide) g4b ?_ | refine q_31 rfl (by decide) ?_
          refine q_5 rfl ?_
          first | refine q_31E rfl (by decide) h3 ?_ | refine q_31 rfl (by decide) ?_
          refine q_ltN (by omega) (by omega) (fun hh => ?_) (fun hh => absurd hh (by omega))
          refine q_5 rfl ?_
          refine q_33 rfl (by decide) (hP _ _ _ rfl) ?_
          refine q_5 rfl ?_
          first | refine q_31E rfl (by decide) g4 ?_ | refine q_31E rfl (by decide) g4b ?_ | refine q_31 rfl (by decide) ?_
          first | refine q_40E _ rfl (by decide) rfl (by show _ < 700; omega) (by decide) (h1b) ?_ | refine q_40 _ rfl (by decide) rfl (by show _ < 700; omega) (by decide) ?_
          refine q_0 ?_
          refine q_ltI (fun _ => ?_) (fun z => absurd lt z)
          exact s129
        · have h1 : mj_upI I' 29 5 (nI s) 1 s = nI (b s) := bs.1.trans (sbt_in (by omega))
          by_cases c9 : b s < 97
          · refine q_5 rfl ?_
            refine q_5 rfl ?_
            first | refine q_31E rfl (by decide) g4 ?_ | refine q_31E rfl (by decide) g4b ?_ | refine q_31 rfl (by decide) ?_
            refine q_34 rfl (by decide) ?_
            refine q_5 rfl ?_
            first | refine q_31E rfl (by decide) g4 ?_ | refine q_31E rfl (by decide) g4b ?_ | refine q_31 rfl (by decide) ?_
            refine q_5 rfl ?_
            first | refine q_31E rfl (by decide) h3 ?_ | refine q_31 rfl (by decide) ?_
            refine q_ltN (by omega) (by omega) (fun hh => ?_) (fun hh => absurd hh (by omega))
            refine q_5 rfl ?_
            refine q_33 rfl (by decide) (hP _ _ _ rfl) ?_
            refine q_5 rfl ?_
            first | refine q_31E rfl (by decide) g4 ?_ | refine q_31E rfl (by decide) g4b ?_ | refine q_31 rfl (by decide) ?_
            first | refine q_40E _ rfl (by decide) rfl (by show _ < 700; omega) (by decide) (h1) ?_ | refine q_40 _ rfl (by decide) rfl (by show _ < 700; omega) (by decide) ?_
            refine q_0 ?_
            refine q_ltN (by omega) (by omega) (fun hh => ?_) (fun hh => absurd hh (by omega))
            exact s129
          · have c10 : 122 < b s := by
              apply Nat.lt_of_not_le
              intro q
              exact hl (isL_iff.mpr ⟨by omega, q⟩)
            refine q_5 rfl ?_
            refine q_5 rfl ?_
            first | refine q_31E rfl (by decide) g4 ?_ | refine q_31E rfl (by decide) g4b ?_ | refine q_31 rfl (by decide) ?_
            refine q_34 rfl (by decide) ?_
            refine q_5 rfl ?_
            first | refine q_31E rfl (by decide) g4 ?_ | refine q_31E rfl (by decide) g4b ?_ | refine q_31 rfl (by decide) ?_
            refine q_5 rfl ?_
            first | refine q_31E rfl (by decide) h3 ?_ | refine q_31 rfl (by decide) ?_
            refine q_ltN (by omega) (by omega) (fun hh => ?_) (fun hh => absurd hh (by omega))
            refine q_5 rfl ?_
            refine q_33 rfl (by decide) (hP _ _ _ rfl) ?_
            refine q_5 rfl ?_
            first | refine q_31E rfl (by decide) g4 ?_ | refine q_31E rfl (by decide) g4b ?_ | refine q_31 rfl (by decide) ?_
            first | refine q_40E _ rfl (by decide) rfl (by show _ < 700; omega) (by decide) (h1) ?_ | refine q_40 _ rfl (by decide) rfl (by show _ < 700; omega) (by decide) ?_
            refine q_0 ?_
            refine q_ltN (by omega) (by omega) (fun hh => absurd hh (by omega)) (fun hh => ?_)
            refine q_5 rfl ?_
            refine q_33 rfl (by decide) (hP _ _ _ rfl) ?_
            refine q_5 rfl ?_
            first | refine q_31E rfl (by decide) g4 ?_ | refine q_31E rfl (by decide) g4b ?_ | refine q_31 rfl (by decide) ?_
            first | refine q_40E _ rfl (by decide) rfl (by show _ < 700; omega) (by decide) (h1) ?_ | refine q_40 _ rfl (by decide) rfl (by show _ < 700; omega) (by decide) ?_
            refine q_0 ?_
            refine q_gtN (by omega) (by omega) (fun hh => ?_) (fun hh => absurd hh (by omega))
            exact s129
  -- spaces
  have sps : ∀ i, i ≤ s → tkp b n j ≤ i → ∀ I', Eqf (frm [] tcF) I I' → I' 29 4 = nI i → mj_run (mj_ev (d + 5)) k39 Q (k39 14) [some (.ref 29)] [] (107, I', L, P) 0 0 := by
    refine loop_up ?_ (fun i hi ih => ?_)
    · intro _ I' E g4
      have h3 := (fB E).2.2
      by_cases c : n ≤ s
      · refine q_5 rfl ?_
        first | refine q_31E rfl (by decide) g4 ?_ | refine q_31 rfl (by decide) ?_
        refine q_5 rfl ?_
        first | refine q_31E rfl (by decide) h3 ?_ | refine q_31 rfl (by decide) ?_
        refine q_geN (by omega) (by omega) (fun hh => ?_) (fun hh => absurd hh (by omega))
        exact main I' E g4
      · have nw : isWs (b s) = false := w4 (by omega)
        have bs := (fB E).1 s (by omega)
        by_cases c8 : 128 ≤ b s
        · have h1 := bs.1
          have ne := sbt_32 (b s) bs.2 c8
          refine q_5 rfl ?_
          first | refine q_31E rfl (by decide) g4 ?_ | refine q_31 rfl (by decide) ?_
          refine q_5 rfl ?_
          first | refine q_31E rfl (by decide) h3 ?_ | refine q_31 rfl (by decide) ?_
          refine q_geN (by omega) (by omega) (fun hh => absurd hh (by omega)) (fun hh => ?_)
          refine q_5 rfl ?_
          refine q_33 rfl (by decide) (hP _ _ _ rfl) ?_
          refine q_5 rfl ?_
          first | refine q_31E rfl (by decide) g4 ?_ | refine q_31 rfl (by decide) ?_
          first | refine q_40E _ rfl (by decide) rfl (by show _ < 700; omega) (by decide) (h1) ?_ | refine q_40 _ rfl (by decide) rfl (by show _ < 700; omega) (by decide) ?_
          refine q_0 ?_
          refine q_eqI (fun z => absurd z ne.1) (fun _ => ?_)
          refine q_5 rfl ?_
          refine q_33 rfl (by decide) (hP _ _ _ rfl) ?_
          refine q_5 rfl ?_
          first | refine q_31E rfl (by decide) g4 ?_ | refine q_31 rfl (by decide) ?_
          first | refine q_40E _ rfl (by decide) rfl (by show _ < 700; omega) (by decide) (h1) ?_ | refine q_40 _ rfl (by decide) rfl (by show _ < 700; omega) (by decide) ?_
          refine q_0 ?_
          refine q_neI (fun _ => ?_) (fun z => absurd ne.2 z)
          exact main I' E g4
        · have h1 : I' 1 s = nI (b s) := bs.1.trans (sbt_in (by omega))
          have n2 : ¬ (b s = 32 ∨ b s = 10) := fun q => by
            rw [isWs_iff.mpr q] at nw
            cases nw
          refine q_5 rfl ?_
          first | refine q_31E rfl (by decide) g4 ?_ | refine q_31 rfl (by decide) ?_
          refine q_5 rfl ?_
          first | refine q_31E rfl (by decide) h3 ?_ | refine q_31 rfl (by decide) ?_
          refine q_geN (by omega) (by omega) (fun hh => absurd hh (by omega)) (fun hh => ?_)
          refine q_5 rfl ?_
          refine q_33 rfl (by decide) (hP _ _ _ rfl) ?_
          refine q_5 rfl ?_
          first | refine q_31E rfl (by decide) g4 ?_ | refine q_31 rfl (by decide) ?_
          first | refine q_40E _ rfl (by decide) rfl (by show _ < 700; omega) (by decide) (h1) ?_ | refine q_40 _ rfl (by decide) rfl (by show _ < 700; omega) (by decide) ?_
          refine q_0 ?_
          refine q_eqN (by omega) (by omega) (fun hh => absurd hh (by omega)) (fun hh => ?_)
          refine q_5 rfl ?_
          refine q_33 rfl (by decide) (hP _ _ _ rfl) ?_
          refine q_5 rfl ?_
          first | refine q_31E rfl (by decide) g4 ?_ | refine q_31 rfl (by decide) ?_
          first | refine q_40E _ rfl (by decide) rfl (by show _ < 700; omega) (by decide) (h1) ?_ | refine q_40 _ rfl (by decide) rfl (by show _ < 700; omega) (by decide) ?_
          refine q_0 ?_
          refine q_neN (by omega) (by omega) (fun hh => ?_) (fun hh => absurd hh (by omega))
          exact main I' E g4
    · intro hsi I' E g4
      have h3 := (fB E).2.2
      have li := isWs_iff.mp (w3 i hsi hi)
      have h1 : I' 1 i = nI (b i) := ((fB E).1 i (by omega)).1.trans (sbt_in (by omega))
      by_cases c : b i = 32
      · refine q_5 rfl ?_
        first | refine q_31E rfl (by decide) g4 ?_ | refine q_31 rfl (by decide) ?_
        refine q_5 rfl ?_
        first | refine q_31E rfl (by decide) h3 ?_ | refine q_31 rfl (by decide) ?_
        refine q_geN (by omega) (by omega) (fun hh => absurd hh (by omega)) (fun hh => ?_)
        refine q_5 rfl ?_
        refine q_33 rfl (by decide) (hP _ _ _ rfl) ?_
        refine q_5 rfl ?_
        first | refine q_31E rfl (by decide) g4 ?_ | refine q_31 rfl (by decide) ?_
        first | refine q_40E _ rfl (by decide) rfl (by show _ < 700; omega) (by decide) (h1) ?_ | refine q_40 _ rfl (by decide) rfl (by show _ < 700; omega) (by decide) ?_
        refine q_0 ?_
        refine q_eqN (by omega) (by omega) (fun hh => ?_) (fun hh => absurd hh (by omega))
        refine q_5 rfl ?_
        refine q_18 rfl ?_
        first | refine q_31E rfl (by decide) g4 ?_ | refine q_31 rfl (by decide) ?_
        refine q_0 ?_
        first | refine q_add ?_ | refine q_11 rfl ?_
        refine q_34 rfl (by decide) ?_
        refine q_23 ?_
        exact ih (by omega) _ (E.up rfl) upI_s
      · refine q_5 rfl ?_
        first | refine q_31E rfl (by decide) g4 ?_ | refine q_31 rfl (by decide) ?_
        refine q_5 rfl ?_
        first | refine q_31E rfl (by decide) h3 ?_ | refine q_31 rfl (by decide) ?_
        refine q_geN (by omega) (by omega) (fun hh => absurd hh (by omega)) (fun hh => ?_)
        refine q_5 rfl ?_
        refine q_33 rfl (by decide) (hP _ _ _ rfl) ?_
        refine q_5 rfl ?_
        first | refine q_31E rfl (by decide) g4 ?_ | refine q_31 rfl (by decide) ?_
        first | refine q_40E _ rfl (by decide) rfl (by show _ < 700; omega) (by decide) (h1) ?_ | refine q_40 _ rfl (by decide) rfl (by show _ < 700; omega) (by decide) ?_
        refine q_0 ?_
        refine q_eqN (by omega) (by omega) (fun hh => absurd hh (by omega)) (fun hh => ?_)
        refine q_5 rfl ?_
        refine q_33 rfl (by decide) (hP _ _ _ rfl) ?_
        refine q_5 rfl ?_
        first | refine q_31E rfl (by decide) g4 ?_ | refine q_31 rfl (by decide) ?_
        first | refine q_40E _ rfl (by decide) rfl (by show _ < 700; omega) (by decide) (h1) ?_ | refine q_40 _ rfl (by decide) rfl (by show _ < 700; omega) (by decide) ?_
        refine q_0 ?_
        refine q_neN (by omega) (by omega) (fun hh => absurd hh (by omega)) (fun hh => ?_)
        refine q_5 rfl ?_
        refine q_18 rfl ?_
        first | refine q_31E rfl (by decide) g4 ?_ | refine q_31 rfl (by decide) ?_
        refine q_0 ?_
        first | refine q_add ?_ | refine q_11 rfl ?_
        refine q_34 rfl (by decide) ?_
        refine q_23 ?_
        exact ih (by omega) _ (E.up rfl) upI_s
  show mj_run (mj_ev (d + 5)) k39 Q (k39 0) [some (.ref 29)] [] (107, I, L, P) 0 0
  refine q_5 rfl ?_
  first | refine q_31E rfl (by decide) h9 ?_ | refine q_31 rfl (by decide) ?_
  first | refine q_eqN0 (by omega) (fun hh => ?_) (fun hh => absurd hh (by omega)) | refine q_eqI0 (fun hh => ?_) (fun hh => absurd (by omega) hh)
  exact sps _ w1 (Nat.le_refl _) I Eqf.rf h4
end C
