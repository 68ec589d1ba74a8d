/-! what was told is what a text tells -/
theorem kv_inj : ∀ a, a < 11 → ∀ b, b < 11 → kv a = kv b → a = b := by decide
theorem kv_20 : ∀ a, a < 11 → kv a < 20 := by decide
theorem av_bit {v : Nat} (hv : v ≤ 10) : ∀ (R : RP) (M0 : Nat), (∀ q, q ∈ R → q.1 = 2 → q.2 ≤ 10) → (R.foldl av1 M0).testBit (kv v) = (M0.testBit (kv v) || R.any (fun q => decide (q = (2, v))))
  | [], M0, _ => by simp
  | q :: R, M0, h => by
    have h1 : (av1 M0 q).testBit (kv v) = (M0.testBit (kv v) || decide (q = (2, v))) := by
      unfold av1
      by_cases c : q.1 = 2
      · rw [if_pos c, Nat.testBit_or, Nat.testBit_two_pow]
        congr 1
        rw [decide_eq_decide]
        have h10 := h q List.mem_cons_self c
        constructor
        · intro e
          have := kv_inj _ (by omega) _ (by omega) e
          obtain ⟨q1, q2⟩ := q
          simp only at c this ⊢
          rw [c, this]
        · rintro rfl
          rfl
      · rw [if_neg c]
        have : q ≠ (2, v) := fun e => c (by rw [e])
        simp [this]
    rw [List.foldl_cons, av_bit hv R _ (fun p hp => h p (List.mem_cons_of_mem _ hp)), h1, List.any_cons, Bool.or_assoc]
theorem av_lt : ∀ (R : RP) (M0 : Nat), M0 < 2 ^ 20 → (∀ q, q ∈ R → q.1 = 2 → q.2 ≤ 10) → R.foldl av1 M0 < 2 ^ 20
  | [], M0, h0, _ => h0
  | q :: R, M0, h0, h => by
    rw [List.foldl_cons]
    refine av_lt R _ ?_ (fun p hp => h p (List.mem_cons_of_mem _ hp))
    unfold av1
    by_cases c : q.1 = 2
    · rw [if_pos c]
      exact Nat.or_lt_two_pow h0 (Nat.pow_lt_pow_right (by decide) (kv_20 _ (by have := h q List.mem_cons_self c; omega)))
    · rw [if_neg c]
      exact h0
theorem ruleX_C {R0 : RP} {x y : Int32} {lo hi : Nat} {o : Option RP} {I : mj_I} (h : ruleXb R0 x y lo hi o) (hz : SZb R0 I) (hl : R0.length ≤ 700) : ruleC (I 14) x y lo hi o := by
  cases o with
  | none => exact h
  | some R =>
    obtain ⟨k, h1, h2, h3, h4, h5, h6⟩ := h
    exact ⟨k, h1, h2, by omega, fun i q hq => hz.2 _ _ (h4 i q hq), h5, h6⟩
theorem MC_T {W : NR} {R0 : RP} {I : mj_I} (h : MCb W R0 I) (hl : R0.length ≤ 700) (hW : W.ok) : CT W.1 I := by
  obtain ⟨m1, m2, m3, m4, m5, m6, m7⟩ := h
  refine ⟨hW.1, m1, m2, ruleX_C m5.1 m7 hl, ruleX_C m6 m7 hl, fun R hR => ?_⟩
  have e6 := m5.2
  rw [hR] at e6
  have hr := (hW.1.2.2.1 R hR).1
  have hm : ∀ q, q ∈ R → q.1 = 2 → q.2 ≤ 10 := fun q hq h2 => by
    have := ((rpok_mem hr q hq).2.2.1 h2).2
    omega
  refine ⟨av R, av_lt R 0 (by decide) hm, e6, fun v hv => ?_⟩
  have := av_bit (v := v) (by omega) R 0 hm
  rw [Nat.zero_testBit, Bool.false_or] at this
  exact this
section C
variable {I : mj_I} {L : mj_L} {P : mj_P} {Q : mj_Q} {d n t : Nat} {W : NR} {R0 : RP}
theorem ct_65 (hP : PS t P) (k : ∀ I', Eqf (frm [32, 33, 34] [(31, 0)]) I I' → I' 31 0 = I 8 0 → (∀ p, p < 10 → I' 32 p = I 9 p) → (∀ p, p < 10 → I' 33 p = I 10 p) → (∀ p, p < 10 → I' 34 p = I 11 p) → Q (.inl none) (107, I', L, P)) : mj_ev (d + 1) 65 [.ref 31, .ref 8] (107, I, L, P) Q := by
  refine ⟨rfl, ?_⟩
  show mj_run (mj_ev d) k65 Q (k65 0) [some (.ref 31), some (.ref 8)] [] (107, I, L, P) 0 0
  refine q_5 rfl ?_
  refine q_5 rfl ?_
  refine q_31 rfl (by decide) ?_
  refine q_34 rfl (by decide) ?_
  refine q_5 rfl ?_
  refine q_33 rfl (by decide) (hP _ _ _ rfl) ?_
  refine q_0 ?_
  refine q_5 rfl ?_
  refine q_33 rfl (by decide) (hP _ _ _ rfl) ?_
  refine q_0 ?_
  refine q_0 ?_
  refine q_54 0 0 10 rfl (by decide) rfl (by decide) rfl rfl rfl (by decide) (by decide) (by decide) (by decide) rfl ?_
  refine q_5 rfl ?_
  refine q_33 rfl (by decide) (hP _ _ _ rfl) ?_
  refine q_0 ?_
  refine q_5 rfl ?_
  refine q_33 rfl (by decide) (hP _ _ _ rfl) ?_
  refine q_0 ?_
  refine q_0 ?_
  refine q_54 0 0 10 rfl (by decide) rfl (by decide) rfl rfl rfl (by decide) (by decide) (by decide) (by decide) rfl ?_
  refine q_5 rfl ?_
  refine q_33 rfl (by decide) (hP _ _ _ rfl) ?_
  refine q_0 ?_
  refine q_5 rfl ?_
  refine q_33 rfl (by decide) (hP _ _ _ rfl) ?_
  refine q_0 ?_
  refine q_0 ?_
  refine q_54 0 0 10 rfl (by decide) rfl (by decide) rfl rfl rfl (by decide) (by decide) (by decide) (by decide) rfl ?_
  refine q_25 ?_
  refine k _ ((((Eqf.rf.up rfl).se (fun _ => rfl)).se (fun _ => rfl)).se (fun _ => rfl)) ?_ (fun p hp => ?_) (fun p hp => ?_) (fun p hp => ?_)
  · rw [seI_c (by decide), seI_c (by decide), seI_c (by decide)]
    exact upI_s
  · rw [seI_c (by decide), seI_c (by decide), seI_in hp, upI_c (by decide)]
  · rw [seI_c (by decide), seI_in hp, seI_c (by decide), upI_c (by decide)]
  · rw [seI_in hp, seI_c (by decide), seI_c (by decide), upI_c (by decide)]
theorem c_8 (hP : PS t P) (hM : MCb W R0 I) (hW : W.ok) (k : ∀ I', Eqf (frm [32, 33, 34] [(31, 0), (30, 1), (30, 2), (30, 3)]) I I' → CI W.n 30 31 32 33 34 35 36 37 38 ((nI 0, W.c, W.h, W.m), [], []) I' → Q (.inl none) (107, I', L, P)) : mj_ev (d + 2) 8 [.ref 30, .ref 3] (107, I, L, P) Q := by
  refine ⟨rfl, ?_⟩
  obtain ⟨m1, m2, m3, m4, m5, m6, m7⟩ := hM
  show mj_run (mj_ev (d + 1)) k8 Q (k8 0) [some (.ref 30), some (.ref 3)] [] (107, I, L, P) 0 0
  refine q_5 rfl ?_
  refine q_33 rfl (by decide) (hP _ _ _ rfl) ?_
  refine q_5 rfl ?_
  refine q_33 rfl (by decide) (hP _ _ _ rfl) ?_
  refine q_47 (mj_ev_mono _) [_] rfl rfl rfl (by decide) rfl rfl rfl ?_
  refine ct_65 hP (fun I1 e1 g1 g2 g3 g4 => ?_)
  refine q_5 rfl ?_
  refine q_0 ?_
  refine q_34 rfl (by decide) ?_
  refine q_5 rfl ?_
  refine q_0 ?_
  refine q_34 rfl (by decide) ?_
  refine q_5 rfl ?_
  refine q_0 ?_
  refine q_34 rfl (by decide) ?_
  refine q_25 ?_
  refine k _ ((((e1.to rfl rfl).up rfl).up rfl).up rfl) ⟨g1.trans m3, ⟨hW.1.1, fun p hp => (g2 p hp).trans (m4 p hp).1, fun p hp => (g3 p hp).trans (m4 p hp).2.1, fun p hp => (g4 p hp).trans (m4 p hp).2.2, fun p hp => (hW.2.1 p hp).1, fun p hp => (hW.2.1 p hp).2, hW.2.2⟩, ⟨0, by omega, rfl, fun i ro h => by cases h⟩, rfl, Nat.zero_le _, rfl, Nat.zero_le _, fun i e h => by cases h⟩
end C
